theorem su_rk_0 {h : Int64} {n : Nat} : ∀ {T i : Nat}, i < T → su_in (nI (bn h i)) 0 (nI n - 1) = 0 → su_rk h n T = 0
  | 0, i, hi, _ => absurd hi (Nat.not_lt_zero i)
  | T + 1, i, hi, h0 => by
    simp only [su_rk]
    by_cases g : su_in (nI (bn h T)) 0 (nI n - 1) = 0
    · rw [if_pos g]
    · rw [if_neg g]
      rcases Nat.lt_or_eq_of_le (Nat.le_of_lt_succ hi) with h1 | h1
      · exact su_rk_0 h1 h0
      · rw [h1] at h0; exact absurd h0 g
section WK
variable {P Q : pm_T} {ac : Nat → ClassId} {h0 hm ao : Nat} {ad ma : Nat → Nat} {n t : Nat} {al : Int32} {fH fT : Nat → Option Nat} {hv tv ov : Nat → Nat → Int32} {aw : Nat → Nat} {ct : Nat → Option Nat} {fw : Nat → Nat → Option Nat} {lm : Nat → Int32} {cn lt ks : Int32} {kf : Nat → Int32} {fC : Nat → Option Nat} {fY fB : Nat → Int32} {mv : Nat → Nat → Int32} {th hn tn so : Int32} {fo : Nat → Int64} {hq tq wn : Nat → Nat}
/-- the rows of a walk -/
theorem iv_C.walk {fD : Nat → Option Nat} {fY1 fB1 : Nat → Int32} {cn1 lt1 : Int32} (h : iv_C P ac h0 ad n t al fH fT hv tv ov aw ct fw lm cn lt ks kf fC fY fB) : iv_C (pm_up (pm_up (pm_up (pm_up P (ad 7) (iv_r ac 3 6 fD)) (ad 8) (.inl (ac 0, 6, .inl fY1))) (ad 9) (.inl (ac 0, 6, .inl fB1))) (ad 5) (.inr (5, [.ref (ad 7), .ref (ad 8), .ref (ad 9), .int cn1, .int lt1]))) ac h0 ad n t al fH fT hv tv ov aw ct fw lm cn1 lt1 ks kf fD fY1 fB1 := by
  obtain ⟨g0, g1, g2, g3, g4, g6, g5, g7, g8, g9, gn, gy, gt⟩ := h
  have n75 : ad 7 ≠ ad 5 := pm_ne g7 g5 (by simp)
  have n78 : ad 7 ≠ ad 8 := pm_ne g7 g8 (by simp)
  have n79 : ad 7 ≠ ad 9 := pm_ne g7 g9 (by simp)
  have n85 : ad 8 ≠ ad 5 := pm_ne g8 g5 (by simp)
  have n95 : ad 9 ≠ ad 5 := pm_ne g9 g5 (by simp)
  have k : ∀ a e, P a = some e → e ≠ iv_r ac 3 6 fC → e ≠ .inl (ac 0, 6, .inl fY) → e ≠ .inl (ac 0, 6, .inl fB) → e ≠ .inr (5, [.ref (ad 7), .ref (ad 8), .ref (ad 9), .int cn, .int lt]) → pm_up (pm_up (pm_up (pm_up P (ad 7) (iv_r ac 3 6 fD)) (ad 8) (.inl (ac 0, 6, .inl fY1))) (ad 9) (.inl (ac 0, 6, .inl fB1))) (ad 5) (.inr (5, [.ref (ad 7), .ref (ad 8), .ref (ad 9), .int cn1, .int lt1])) a = some e := fun a e h1 h2 h3 h4 h5 => by
    rw [pm_n (pm_ne h1 g5 h5), pm_n (pm_ne h1 g9 h4), pm_n (pm_ne h1 g8 h3), pm_n (pm_ne h1 g7 h2)]; exact h1
  have u1 := gy.up (y := iv_r ac 3 6 fD) g7 rfl
  have u2 := u1.up (a := ad 8) (x := .inl (ac 0, 6, .inl fY)) (y := .inl (ac 0, 6, .inl fY1)) (by rw [pm_n n78.symm]; exact g8) rfl
  have u3 := u2.up (a := ad 9) (x := .inl (ac 0, 6, .inl fB)) (y := .inl (ac 0, 6, .inl fB1)) (by rw [pm_n gn.symm, pm_n n79.symm]; exact g9) rfl
  have u4 := u3.up (a := ad 5) (x := .inr (5, [.ref (ad 7), .ref (ad 8), .ref (ad 9), .int cn, .int lt])) (y := .inr (5, [.ref (ad 7), .ref (ad 8), .ref (ad 9), .int cn1, .int lt1])) (by rw [pm_n n95.symm, pm_n n85.symm, pm_n n75.symm]; exact g5) rfl
  refine ⟨k _ _ g0 (by simp) (by simp) (by simp) (by simp), k _ _ g1 (by simp) (by simp) (by simp) (by simp), k _ _ g2 (by simp) (by simp) (by simp) (by simp), k _ _ g3 (by simp) (by simp) (by simp) (by simp), k _ _ g4 (by simp) (by simp) (by simp) (by simp), k _ _ g6 (by simp) (by simp) (by simp) (by simp), pm_s, ?_, ?_, ?_, gn, u4, fun i x hx => k _ _ (gt i x hx) (by simp) (by simp) (by simp) (by simp)⟩
  · rw [pm_n n75, pm_n n79, pm_n n78]; exact pm_s
  · rw [pm_n n85, pm_n gn]; exact pm_s
  · rw [pm_n n95]; exact pm_s
theorem iv_hM (hB : iv_B n t al so mv) {p1 : Int64} {c cd : Nat} (hc : c ≤ 6) (hkn : ∀ i, i < c → bn p1 i < n) (ho : su_og c cd) : ¬ su_met mv (fun i => bn p1 (su_dg c cd i)) c < 0 := by
  have hpl : ∀ k, k < n → su_pm (mv 0 k) (mv 1 k) = 1 := fun k hk => (hB.2.2.2.1 k hk).1
  rw [met_M (fun i hi => hpl _ (hkn _ (ho.1 i hi)))]
  have b1 := rd_mb (c := n) hpl (o := fun i => bn p1 (su_dg c cd i)) (d := c) (fun i hi => hkn _ (ho.1 i hi))
  have b2 := (rd_home (c := n) hpl (o := fun i => bn p1 (su_dg c cd i)) (d := c) (fun i hi => hkn _ (ho.1 i hi))).2
  have b3 : c * 200000 ≤ 6 * 200000 := Nat.mul_le_mul_right _ hc
  refine nI_pos ?_
  unfold rd_M
  omega
theorem iv_told (hH : iv_H n t fH hv aw ct mv hq tq) (hn : n ≤ 40) {p1 : Int64} {i : Nat} (hi : i < 6) : (¬ su_kn (su_told p1 (nI i)) fH = none → bn p1 i < n ∧ ¬ su_in (nI (bn p1 i)) 0 (nI n - 1) = 0) ∧ (su_kn (su_told p1 (nI i)) fH = none → su_in (nI (bn p1 i)) 0 (nI n - 1) = 0) := by
  rw [su_told_bn hi]
  rcases iv_kn hH hn (nI (bn p1 i)) with ⟨j, hj, e, ek⟩ | ⟨e0, ek⟩
  · have h1 := bn_lt p1 i
    have e := (nI_eq (by omega) (by omega)).mp e
    refine ⟨fun _ => ⟨by omega, ?_⟩, fun h => absurd h (su_ne ek)⟩
    rw [e]
    have h2 : su_in (nI j) 0 (nI n - 1) = 1 := by
      rw [show nI n - 1 = nI (n - 1) from by rw [show (1 : Int32) = nI 1 from rfl, nI_sub (by omega)]]
      exact su_in_1 (by omega) (by omega) rfl
    rw [h2]; decide
  · exact ⟨fun h => absurd ek h, fun _ => e0⟩
end WK

set_option maxHeartbeats 4000000 in
set_option maxRecDepth 100000 in
theorem st_round (l : Launch) (hT : l.stackTraces = false) (z : Nat) (D : va_G) (ac : Nat → ClassId) (sa : Nat → Nat) (P : pm_T) (h0 hm ao : Nat) (th : Int32) (p1 : Int64) (p3 : Int32) (hI : iv_I P ac h0 hm ao th) : ∃ (fs : List Value) (post : Option Value → pm_T → Prop) (xp : String → pm_T → Prop), P h0 = some (.inr (0, fs)) ∧ cx_V l yy_C_round bb_C_round 11 (some .int) ({ frames := 12, cells := 8, slots := 48, locals := 360 } : Room) z D ac sa P [.ref h0, .long p1, .int p3] post xp ∧ (∀ v P1, post v P1 → ∃ (r : Int32) (fo : Nat → Int64), v = some (.int r) ∧ P1 ao = some (iv_o ac fo) ∧ ∀ x : Nat → Int64, ∃ (vs : List Value) (mp : Option Value → pm_T → Prop), (pm_up P1 ao (iv_o ac x)) hm = some (.inr (6, vs)) ∧ cx_M l yy_M_round bb_M_round 11 (some .int) ({ frames := 4, cells := 0, slots := 0, locals := 120 } : Room) z D ac sa (pm_up P1 ao (iv_o ac x)) [.ref hm, .long p1, .int p3] mp ∧ ∀ w P3, mp w P3 → w = some (.int r) ∧ iv_I P3 ac h0 hm ao 0 ∧ P3 ao = some (iv_o ac x)) ∧ (∀ E P1, xp E P1 → ∃ cd : Int32, ((E = xn_IAE ∧ cd = 1) ∨ (E = xn_IOB ∧ cd = 2)) ∧ ∃ (vs : List Value) (mp : Option Value → pm_T → Prop), P1 hm = some (.inr (6, vs)) ∧ cx_M l yy_M_round bb_M_round 11 (some .int) ({ frames := 4, cells := 0, slots := 0, locals := 120 } : Room) z D ac sa (P1) [.ref hm, .long p1, .int p3] mp ∧ ∀ w P3, mp w P3 → (∃ b, w = some (.int b)) ∧ iv_I P3 ac h0 hm ao cd) := by
  obtain ⟨ad, ma, n, t, al, so, fH, fT, hv, tv, ov, aw, ct, fw, lm, cn, lt, ks, kf, fC, fY, fB, mv, hq, tq, wn, fo0, hC, hW, hD, hO, hP⟩ := hI
  obtain ⟨g0, g1, g2, g3, g4, g6, g5, g7, g8, g9, gn, gy, gt⟩ := id hC
  obtain ⟨hPH, hPO, hPT, hPB, hPL⟩ := id hP
  have hn40 : n ≤ 40 := hPB.1.1
  have ht100 : t ≤ 100 := hPB.1.2
  have hnum : ∀ k q, fH k = some q → hv 0 q = nI k := fun k q h => by
    rw [hPH.1 k] at h
    by_cases hk : k < n
    · rw [if_pos hk] at h; cases h; exact (hPH.2.2 k hk).1
    · rw [if_neg hk] at h; cases h
  have hMx : ∀ c cd, c ≤ 6 → (∀ i, i < c → bn p1 i < n) → su_og c cd → ¬ su_met mv (fun i => bn p1 (su_dg c cd i)) c < 0 := fun c cd h1 h2 h3 => iv_hM hPB h1 h2 h3
  have hT6 := su_tn_le p3
  refine ⟨_, _, _, g0, c_C_round l hT z D ac sa P h0 (ad 1) (ad 2) (ad 3) (ad 4) (ad 5) (nI n) (nI t) al fH hv tv ov aw ct fw (ad 7) (ad 8) (ad 9) cn lt fC fY fB p1 p3 gn hnum gy g0 g1 g5 g7 g8 g9, ?_, ?_⟩
  · rintro v P1 ⟨⟨x0, x1, x2, -⟩, sv, fD, fY1, fB1, hsv, hfD, eY, eB, rfl, eP⟩
    subst eP
    have hC1 := hC.walk (fD := fD) (fY1 := fY1) (fB1 := fB1) (cn1 := nI (su_sl fH sv (hv 0) 40).length) (lt1 := (su_go (su_sl fH sv (hv 0) 40).length (fun i => hv 0 ((su_sl fH sv (hv 0) 40).getD i 0)) (fun i => hv 1 ((su_sl fH sv (hv 0) 40).getD i 0)) (fun i => hv 2 ((su_sl fH sv (hv 0) 40).getD i 0)) 6 0 0 0 0 0 (fY, fB, 1400001)).2.2)
    have n75 : ad 7 ≠ ad 5 := pm_ne g7 g5 (by simp)
    have hW7 := hW.up (a := ad 7) (x := iv_r ac 3 6 fD) (md_ne hW g7 rfl)
    have hW8 := hW7.up (a := ad 8) (x := .inl (ac 0, 6, .inl fY1)) ⟨pm_ne g8 hW.1 (by simp), fun k hk => (hD k hk).2.2.1⟩
    have hW9 := hW8.up (a := ad 9) (x := .inl (ac 0, 6, .inl fB1)) ⟨pm_ne g9 hW.1 (by simp), fun k hk => (hD k hk).2.2.2⟩
    have hW1 := hW9.up (a := ad 5) (x := .inr (5, [.ref (ad 7), .ref (ad 8), .ref (ad 9), .int (nI (su_sl fH sv (hv 0) 40).length), .int ((su_go (su_sl fH sv (hv 0) 40).length (fun i => hv 0 ((su_sl fH sv (hv 0) 40).getD i 0)) (fun i => hv 1 ((su_sl fH sv (hv 0) 40).getD i 0)) (fun i => hv 2 ((su_sl fH sv (hv 0) 40).getD i 0)) 6 0 0 0 0 0 (fY, fB, 1400001)).2.2)])) (md_ne hW g5 rfl)
    have hO1 : pm_up (pm_up (pm_up (pm_up P (ad 7) (iv_r ac 3 6 fD)) (ad 8) (.inl (ac 0, 6, .inl fY1))) (ad 9) (.inl (ac 0, 6, .inl fB1))) (ad 5) (.inr (5, [.ref (ad 7), .ref (ad 8), .ref (ad 9), .int (nI (su_sl fH sv (hv 0) 40).length), .int ((su_go (su_sl fH sv (hv 0) 40).length (fun i => hv 0 ((su_sl fH sv (hv 0) 40).getD i 0)) (fun i => hv 1 ((su_sl fH sv (hv 0) 40).getD i 0)) (fun i => hv 2 ((su_sl fH sv (hv 0) 40).getD i 0)) 6 0 0 0 0 0 (fY, fB, 1400001)).2.2)])) ao = some (iv_o ac fo0) := by rw [pm_n (pm_ne hO g5 (by simp)), pm_n (pm_ne hO g9 (by simp)), pm_n (pm_ne hO g8 (by simp)), pm_n (pm_ne hO g7 (by simp))]; exact hO
    refine ⟨_, fo0, rfl, hO1, fun x => ?_⟩
    have hC2 := hC1.out hO1 (x := iv_o ac x)
    have hW2 := hW1.up (x := iv_o ac x) (md_neo hW1 hO1)
    obtain ⟨P2, eP2⟩ : ∃ P2 : pm_T, P2 = pm_up (pm_up (pm_up (pm_up (pm_up P (ad 7) (iv_r ac 3 6 fD)) (ad 8) (.inl (ac 0, 6, .inl fY1))) (ad 9) (.inl (ac 0, 6, .inl fB1))) (ad 5) (.inr (5, [.ref (ad 7), .ref (ad 8), .ref (ad 9), .int (nI (su_sl fH sv (hv 0) 40).length), .int ((su_go (su_sl fH sv (hv 0) 40).length (fun i => hv 0 ((su_sl fH sv (hv 0) 40).getD i 0)) (fun i => hv 1 ((su_sl fH sv (hv 0) 40).getD i 0)) (fun i => hv 2 ((su_sl fH sv (hv 0) 40).getD i 0)) 6 0 0 0 0 0 (fY, fB, 1400001)).2.2)]))) ao (iv_o ac x) := ⟨_, rfl⟩
    have hO2 : P2 ao = some (iv_o ac x) := by rw [eP2]; exact pm_s
    rw [← eP2] at hC2 hW2
    refine ⟨_, fun v P' => (su_gs (su_rk p1 n (su_tn p3)) (su_an8 (su_in p3 0 6) (su_ro p1 (su_tn p3))) 1 1 = 0 → ∃ (c9 : Nat) (f15 f16 f17 : Nat → Int32) (v0 : Int32), p3 = nI c9 ∧ c9 ≤ 6 ∧ v = some (.int v0) ∧ su_rb (su_rM mv p1 c9) (su_rS p1 c9) c9 (6 ^ c9) f17 v0 ∧ md_W P' ac hm ma (va_up (va_up (va_up mv 15 f15) 16 f16) 17 f17) (su_gs (su_rk p1 n (su_tn p3)) (su_an8 (su_in p3 0 6) (su_ro p1 (su_tn p3))) 1 1) (nI n) al (nI t) (nI c9)) ∧ (¬ su_gs (su_rk p1 n (su_tn p3)) (su_an8 (su_in p3 0 6) (su_ro p1 (su_tn p3))) 1 1 = 0 → v = some (.int 0) ∧ md_W P' ac hm ma mv (su_gs (su_rk p1 n (su_tn p3)) (su_an8 (su_in p3 0 6) (su_ro p1 (su_tn p3))) 1 1) (nI n) al (nI t) so) ∧ md_F P2 P' hm ma, by rw [← eP2]; exact hW2.1, by rw [← eP2]; exact c_M_round l z D ac sa P2 hm ma mv th al so n t hn40 ht100 p1 p3 hMx hW2, ?_⟩
    clear eP2
    rintro w P3 ⟨hp1, -, hF⟩
    have hG : su_gs (su_rk p1 n (su_tn p3)) (su_an8 (su_in p3 0 6) (su_ro p1 (su_tn p3))) 1 1 = 0 := by
      rw [su_rk_z.2 (fun i hi => ((iv_told hPH hn40 (by omega)).1 (x0 i hi)).2), in_1 x1, (su_ss_ro hT6).2 x2]; decide
    obtain ⟨c9, f15, f16, f17, v0, e3, hc6, e1, hrb, hw3⟩ := hp1 hG
    rw [hG] at hw3
    have eT : su_tn p3 = c9 := by rw [e3]; exact su_tn_c hc6
    rw [eT] at hsv
    have hkn : ∀ i, i < c9 → bn p1 i < n := fun i hi => ((iv_told hPH hn40 (by omega)).1 (x0 i (by omega))).1
    obtain ⟨r1, r2, r3⟩ := rd_same hPH hPB hc6 hkn hsv fY fB hrb
    have hP3 : iv_P n t al fH fT hv tv ov aw ct fw lm (nI (su_sl fH sv (hv 0) 40).length) fB1 (va_up (va_up (va_up mv 15 f15) 16 f16) 17 f17) (nI c9) hq tq wn := by
      refine ⟨hPH, hPO, hPT, ⟨hPB.1, hPB.2.1, ⟨c9, hc6, rfl⟩, hPB.2.2.2⟩, hPL.1, by rw [r1], fun i hi hi6 => ?_⟩
      have hi : i < c9 := (nI_ltI (by omega) (by omega)).mp hi
      rw [eB i hi6, r3 i hi]
      rfl
    exact ⟨by rw [e1, r2], iv_fin hC2 hW2 hD hO2 hF hw3 hP3⟩
  · rintro E P1 ⟨eP, hx⟩
    have eP := eP.symm
    subst eP
    rcases hx with ⟨x0, rfl⟩ | ⟨y0, (⟨x1, rfl⟩ | ⟨y1, (⟨x2, rfl⟩ | ⟨-, hx9⟩)⟩)⟩
    · skip
      have hG : su_gs (su_rk p1 n (su_tn p3)) (su_an8 (su_in p3 0 6) (su_ro p1 (su_tn p3))) 1 1 = 1 := by
        have h0 : su_rk p1 n (su_tn p3) = 0 := Classical.byContradiction (fun h => x0 (fun i hi hk => h (su_rk_0 hi ((iv_told hPH hn40 (by omega)).2 hk))))
        rw [h0]
        exact if_pos rfl
      refine ⟨1, .inl ⟨rfl, rfl⟩, _, _, hW.1, c_M_round l z D ac sa P hm ma mv th al so n t hn40 ht100 p1 p3 hMx hW, ?_⟩
      intro w P3 hp
      obtain ⟨-, hp2, hF⟩ := hp
      obtain ⟨e1, hw3⟩ := hp2 (by rw [hG]; decide)
      rw [hG] at hw3
      exact ⟨⟨0, e1⟩, (iv_fin hC hW hD hO hF hw3 hP).1⟩
    · skip
      have hG : su_gs (su_rk p1 n (su_tn p3)) (su_an8 (su_in p3 0 6) (su_ro p1 (su_tn p3))) 1 1 = 2 := by
        rw [su_rk_z.2 (fun i hi => ((iv_told hPH hn40 (by omega)).1 (y0 i hi)).2), in_0 x1]; rfl
      refine ⟨2, .inr (⟨rfl, rfl⟩), _, _, hW.1, c_M_round l z D ac sa P hm ma mv th al so n t hn40 ht100 p1 p3 hMx hW, ?_⟩
      intro w P3 hp
      obtain ⟨-, hp2, hF⟩ := hp
      obtain ⟨e1, hw3⟩ := hp2 (by rw [hG]; decide)
      rw [hG] at hw3
      exact ⟨⟨0, e1⟩, (iv_fin hC hW hD hO hF hw3 hP).1⟩
    · skip
      have hG : su_gs (su_rk p1 n (su_tn p3)) (su_an8 (su_in p3 0 6) (su_ro p1 (su_tn p3))) 1 1 = 2 := by
        rw [su_rk_z.2 (fun i hi => ((iv_told hPH hn40 (by omega)).1 (y0 i hi)).2), in_1 y1, (su_ss_ro hT6).1 (Classical.not_not.mp x2)]; rfl
      refine ⟨2, .inr (⟨rfl, rfl⟩), _, _, hW.1, c_M_round l z D ac sa P hm ma mv th al so n t hn40 ht100 p1 p3 hMx hW, ?_⟩
      intro w P3 hp
      obtain ⟨-, hp2, hF⟩ := hp
      obtain ⟨e1, hw3⟩ := hp2 (by rw [hG]; decide)
      rw [hG] at hw3
      exact ⟨⟨0, e1⟩, (iv_fin hC hW hD hO hF hw3 hP).1⟩
    · exact hx9.elim
