set_option maxHeartbeats 4000000 in
set_option maxRecDepth 100000 in
theorem st_test (l : Launch) (hT : l.stackTraces = false) (z : Nat) (D : va_G) (ac : Nat → ClassId) (sa : Nat → Nat) (P : pm_T) (h0 hm ao : Nat) (th : Int32) (p1 : Int32) (p2 : Int32) (p3 : Int32) (p4 : Int32) (p5 : Int32) (hI : iv_I P ac h0 hm ao th) : ∃ (fs : List Value) (post : Option Value → pm_T → Prop) (xp : String → pm_T → Prop), P h0 = some (.inr (0, fs)) ∧ cx_V l yy_C_test bb_C_test 9 (some .int) ({ frames := 7, cells := 9, slots := 50, locals := 150 } : Room) z D ac sa P [.ref h0, .int p1, .int p2, .int p3, .int p4, .int p5] post xp ∧ (∀ v P1, post v P1 → ∃ (r : Int32) (fo : Nat → Int64), v = some (.int r) ∧ P1 ao = some (iv_o ac fo) ∧ ∀ x : Nat → Int64, ∃ (vs : List Value) (mp : Option Value → pm_T → Prop), (pm_up P1 ao (iv_o ac x)) hm = some (.inr (6, vs)) ∧ cx_M l yy_M_test bb_M_test 6 (some .int) ({ frames := 3, cells := 0, slots := 0, locals := 70 } : Room) z D ac sa (pm_up P1 ao (iv_o ac x)) [.ref hm, .int p1, .int p2, .int p3, .int p4, .int p5] mp ∧ ∀ w P3, mp w P3 → w = some (.int r) ∧ iv_I P3 ac h0 hm ao 0 ∧ P3 ao = some (iv_o ac x)) ∧ (∀ E P1, xp E P1 → ∃ cd : Int32, ((E = xn_IAE ∧ cd = 1) ∨ (E = xn_IOB ∧ cd = 2) ∨ (E = xn_ISE ∧ cd = 3) ∨ (E = xn_UOE ∧ cd = 4)) ∧ ∃ (vs : List Value) (mp : Option Value → pm_T → Prop), P1 hm = some (.inr (6, vs)) ∧ cx_M l yy_M_test bb_M_test 6 (some .int) ({ frames := 3, cells := 0, slots := 0, locals := 70 } : Room) z D ac sa (P1) [.ref hm, .int p1, .int p2, .int p3, .int p4, .int p5] mp ∧ ∀ w P3, mp w P3 → (∃ b, w = some (.int b)) ∧ iv_I P3 ac h0 hm ao cd) := by
  obtain ⟨ad, ma, n, t, al, so, fH, fT, hv, tv, ov, aw, ct, fw, lm, cn, lt, ks, kf, fC, fY, fB, mv, hq, tq, wn, fo0, hC, hW, hD, hO, hP⟩ := hI
  obtain ⟨g0, g1, g2, g3, g4, g6, g5, g7, g8, g9, gn, gy, gt⟩ := id hC
  obtain ⟨hPH, hPO, hPT, hPB, hPL⟩ := id hP
  have hn40 : n ≤ 40 := hPB.1.1
  have ht100 : t ≤ 100 := hPB.1.2
  refine ⟨_, _, _, g0, c_C_test l hT z D ac sa P h0 (ad 1) (ad 2) (ad 3) (ad 4) (ad 5) (nI n) (nI t) al fH hv tv ov aw ct fw fT p1 p2 p3 p4 p5 gy g0 g1 g2, ?_, ?_⟩
  · rintro v P1 ⟨⟨x0, x1, x2, x3, x4, x5, x6, -⟩, rfl, q9, x9, hk, nx, f1, f2, f3, f4, fr⟩
    rcases iv_kn hPH hn40 p1 with ⟨j, hj, rfl, e9j⟩ | ⟨-, e9⟩
    rotate_left
    · exact absurd e9 (su_ne hk)
    rw [e9j] at hk
    cases hk
    have ht : t < 100 := by have h := x6.2; rw [show (100 : Int32) = nI 100 from rfl, nI_ltI (by omega) (by decide)] at h; exact h
    rw [nI_clamp (show t < 2 ^ 31 by omega)] at f2
    rw [nI_1] at f3
    have hqj := hq_at hPH hj
    have gq := (gy j (hq j) hqj).1
    have hC1 := hC.newt hqj nx f1 f2 f3 f4 fr
    have hW1 : md_W P1 ac hm ma mv th (nI n) al (nI t) so := hW.keep (fr hm (by rw [hW.1]; exact fun h => nomatch h) (md_ne hW g0 rfl).1.symm (md_ne hW g2 rfl).1.symm (md_ne hW gq rfl).1.symm) (fun k hk => fr (ma k) (by rw [hW.2.1 k hk]; exact fun h => nomatch h) ((md_ne hW g0 rfl).2 k hk).symm ((md_ne hW g2 rfl).2 k hk).symm ((md_ne hW gq rfl).2 k hk).symm)
    have hO1 : P1 ao = some (iv_o ac fo0) := by rw [fr ao (by rw [hO]; exact fun h => nomatch h) (pm_ne hO g0 (by simp)) (pm_ne hO g2 (by simp)) (pm_ne hO gq (by simp))]; exact hO
    refine ⟨_, fo0, rfl, hO1, fun x => ?_⟩
    have hC2 := hC1.out hO1 (x := iv_o ac x)
    have hW2 := hW1.up (x := iv_o ac x) (md_neo hW1 hO1)
    have hO2 : pm_up P1 ao (iv_o ac x) ao = some (iv_o ac x) := pm_s
    refine ⟨_, _, hW2.1, c_M_test l z D ac sa _ hm ma mv th al so n t hn40 ht100 (nI j) p2 p3 p4 p5 hW2, ?_⟩
    intro w P3 hp
    obtain ⟨hp1, -, hF⟩ := hp
    have hG : (su_gs (su_in (nI j) 0 (nI n - 1)) (su_an4 (su_in p2 0 99999) (su_in p3 0 2000) (su_in p4 0 20000) (su_in p5 0 2000)) (su_le p5 p3) (su_lt (nI t) 100)) = 0 := by rw [su_hin_i hj hn40, in_1 x1, in_1 x2, in_1 x4, in_1 x3, su_le, if_neg (Int32.not_lt.mpr x5), su_lt, if_neg (Int32.not_le.mpr x6.2)]; decide
    obtain ⟨e1, hw3⟩ := hp1 hG
    rw [hG, nI_1] at hw3
    refine ⟨e1, iv_fin hC2 hW2 hD hO2 hF hw3 (hq := hq) (tq := va_up tq t x9) (wn := wn) ?_⟩
    obtain ⟨b1, b2, b3, b4, b5, b6, b7, b8⟩ := id hPB
    obtain ⟨d2, hd2, ed2⟩ := day_n x1
    obtain ⟨d3, hd3, ed3⟩ := su_in_ti (v := p3) (b := 2000) (by decide) (by rw [show nI 2000 = (2000 : Int32) from rfl, in_1 x2]; decide)
    obtain ⟨d4, hd4, ed4⟩ := su_in_ti (v := p4) (b := 20000) (by decide) (by rw [show nI 20000 = (20000 : Int32) from rfl, in_1 x4]; decide)
    obtain ⟨d5, hd5, ed5⟩ := su_in_ti (v := p5) (b := 2000) (by decide) (by rw [show nI 2000 = (2000 : Int32) from rfl, in_1 x3]; decide)
    have hxn : ∀ i, i < t → tq i ≠ x9 := fun i hi e => by
      have h := gt i (tq i) (by rw [hPT.1 i, if_pos hi])
      rw [e, nx] at h
      cases h
    have hoh : ∀ i, i < t → upd (mv 10) t (nI j) i = mv 10 i := fun i hi => upd_n (by omega)
    have hdy : ∀ i, i < t → upd (mv 11) t p2 i = mv 11 i := fun i hi => upd_n (by omega)
    have hcm : ∀ k, su_cm (upd (mv 10) t (nI j)) (upd (mv 11) t p2) k t = su_cm (mv 10) (mv 11) k t := fun k => su_cm_cg (fun i hi => ⟨hoh i hi, hdy i hi⟩)
    have hmp : ∀ k, (su_cm (mv 10) (mv 11) k t).map tq = (su_cm (mv 10) (mv 11) k t).map (va_up tq t x9) := fun k => map_cg (fun i hi => (vq_n (by have := su_cm_lt hi; omega)).symm)
    refine ⟨⟨hPH.1, hPH.2.1, fun k hk => ?_⟩, hPO, ⟨fun k => ?_, fun i hi => ?_⟩, ⟨⟨hn40, by omega⟩, b2, b3, b4, fun i hi => ?_, fun i hi => ?_, fun i hi => ?_, b8⟩, hPL⟩
    · obtain ⟨t0, t1, t2, t3, t4, t6, t7, t8, t9, ta⟩ := hPH.2.2 k hk
      refine ⟨t0, t1, t2, t3, t4, t6, t7, ?_, ?_, ta⟩
      · show upd (hv 9) (hq j) (hv 9 (hq j) + 1) (hq k) = nI (su_nct (upd (mv 10) t (nI j)) (nI k) (t + 1))
        simp only [su_nct, upd_s, su_nct_cg hoh]
        by_cases hkj : k = j
        · subst hkj
          rw [upd_s, if_pos rfl, t8, nI_1]
        · rw [upd_n (fun h => hkj (hq_inj hPH hn40 hk hj h)), if_neg (fun h => hkj ((nI_eq (by omega) (by omega)).mp h).symm)]; exact t8
      · show va_up ct (hq j) (su_ct (ct (hq j)) (tv 2) x9 p2) (hq k) = (su_cm (upd (mv 10) t (nI j)) (upd (mv 11) t p2) (nI k) (t + 1)).map (va_up tq t x9)
        simp only [su_cm, upd_s, hcm]
        by_cases hkj : k = j
        · subst hkj
          rw [vq_s, if_pos rfl, t9]
          rcases hq9 : su_cm (mv 10) (mv 11) (nI k) t with _ | i9
          · show some x9 = some (va_up tq t x9 t)
            rw [vq_s]
          · have hi := su_cm_lt hq9
            show (if p2 < tv 2 (tq i9) then some (tq i9) else some x9) = Option.map (va_up tq t x9) (if p2 < upd (mv 11) t p2 i9 then some i9 else some t)
            rw [(hPT.2 i9 hi).2.2.1, hdy i9 hi]
            by_cases h1 : p2 < mv 11 i9
            · rw [if_pos h1, if_pos h1]
              show some (tq i9) = some (va_up tq t x9 i9)
              rw [vq_n (by omega)]
            · rw [if_neg h1, if_neg h1]
              show some x9 = some (va_up tq t x9 t)
              rw [vq_s]
        · rw [vq_n (fun h => hkj (hq_inj hPH hn40 hk hj h)), if_neg (fun h => hkj ((nI_eq (by omega) (by omega)).mp h).symm), ← hmp]; exact t9
    · by_cases hkt : k = t
      · rw [hkt, vq_s, vq_s, if_pos (by omega)]
      · rw [vq_n hkt, vq_n hkt, hPT.1 k]
        by_cases h1 : k < t
        · rw [if_pos h1, if_pos (by omega)]
        · rw [if_neg h1, if_neg (by omega)]
    · by_cases hit : i = t
      · subst hit
        simp only [vq_s, upd_s]
        refine ⟨rfl, ?_, ?_, ?_, ?_, ?_⟩ <;> first | exact upd_s.symm | rfl
      · have hi1 : i < t := by omega
        obtain ⟨c0, c1, c2, c3, c4, c5⟩ := hPT.2 i hi1
        simp only [vq_n hit, upd_n (hxn i hi1)]
        exact ⟨c0, c1.trans (upd_n hit).symm, c2.trans (upd_n hit).symm, c3.trans (upd_n hit).symm, c4.trans (upd_n hit).symm, c5.trans (upd_n hit).symm⟩
    · show (∃ d, d ≤ 99999 ∧ upd (mv 11) t p2 i = nI d) ∧ (∃ r, r ≤ 2000 ∧ upd (mv 12) t p3 i = nI r) ∧ (∃ f, f ≤ 20000 ∧ upd (mv 13) t p4 i = nI f) ∧ ∃ l, l ≤ 2000 ∧ upd (mv 14) t p5 i = nI l
      by_cases hit : i = t
      · subst hit
        rw [upd_s, upd_s, upd_s, upd_s]
        exact ⟨⟨d2, hd2, ed2⟩, ⟨d3, hd3, ed3⟩, ⟨d4, hd4, ed4⟩, ⟨d5, hd5, ed5⟩⟩
      · rw [upd_n hit, upd_n hit, upd_n hit, upd_n hit]; exact b5 i (by omega)
    · show upd (mv 14) t p5 i ≤ upd (mv 12) t p3 i
      by_cases hit : i = t
      · subst hit; rw [upd_s, upd_s]; exact x5
      · rw [upd_n hit, upd_n hit]; exact b6 i (by omega)
    · show ∃ j', j' < n ∧ upd (mv 10) t (nI j) i = nI j'
      by_cases hit : i = t
      · subst hit; rw [upd_s]; exact ⟨j, hj, rfl⟩
      · rw [upd_n hit]; exact b7 i (by omega)
  · rintro E P1 ⟨eP, hx⟩
    have eP := eP.symm
    subst eP
    rcases hx with ⟨x0, rfl⟩ | ⟨y0, (⟨x1, rfl⟩ | ⟨y1, (⟨x2, rfl⟩ | ⟨y2, (⟨x3, rfl⟩ | ⟨y3, (⟨x4, rfl⟩ | ⟨y4, (⟨x5, rfl⟩ | ⟨y5, (⟨x6, rfl⟩ | ⟨-, hx9⟩)⟩)⟩)⟩)⟩)⟩)⟩
    · skip
      rcases iv_kn hPH hn40 p1 with ⟨j, hj, rfl, e9⟩ | ⟨hA, e9⟩
      · exact absurd (by rw [e9]; exact fun h => nomatch h) x0
      · skip
        refine ⟨1, .inl ⟨rfl, rfl⟩, _, _, hW.1, c_M_test l z D ac sa P hm ma mv th al so n t hn40 ht100 p1 p2 p3 p4 p5 hW, ?_⟩
        intro w P3 hp
        obtain ⟨-, hp2, hF⟩ := hp
        have hG : (su_gs (su_in p1 0 (nI n - 1)) (su_an4 (su_in p2 0 99999) (su_in p3 0 2000) (su_in p4 0 20000) (su_in p5 0 2000)) (su_le p5 p3) (su_lt (nI t) 100)) = 1 := by rw [hA]; exact if_pos rfl
        obtain ⟨e1, hw3⟩ := hp2 (by rw [hG]; decide)
        rw [hG] at hw3
        exact ⟨⟨0, e1⟩, (iv_fin hC hW hD hO hF hw3 hP).1⟩
    · skip
      rcases iv_kn hPH hn40 p1 with ⟨j, hj, rfl, e9j⟩ | ⟨-, e9⟩
      rotate_left
      · exact absurd e9 y0
      refine ⟨2, .inr (.inl ⟨rfl, rfl⟩), _, _, hW.1, c_M_test l z D ac sa P hm ma mv th al so n t hn40 ht100 (nI j) p2 p3 p4 p5 hW, ?_⟩
      intro w P3 hp
      obtain ⟨-, hp2, hF⟩ := hp
      have hG : (su_gs (su_in (nI j) 0 (nI n - 1)) (su_an4 (su_in p2 0 99999) (su_in p3 0 2000) (su_in p4 0 20000) (su_in p5 0 2000)) (su_le p5 p3) (su_lt (nI t) 100)) = 2 := by rw [su_hin_i hj hn40, in_0 x1]; simp [su_an4, su_gs]
      obtain ⟨e1, hw3⟩ := hp2 (by rw [hG]; decide)
      rw [hG] at hw3
      exact ⟨⟨0, e1⟩, (iv_fin hC hW hD hO hF hw3 hP).1⟩
    · skip
      rcases iv_kn hPH hn40 p1 with ⟨j, hj, rfl, e9j⟩ | ⟨-, e9⟩
      rotate_left
      · exact absurd e9 y0
      refine ⟨2, .inr (.inl ⟨rfl, rfl⟩), _, _, hW.1, c_M_test l z D ac sa P hm ma mv th al so n t hn40 ht100 (nI j) p2 p3 p4 p5 hW, ?_⟩
      intro w P3 hp
      obtain ⟨-, hp2, hF⟩ := hp
      have hG : (su_gs (su_in (nI j) 0 (nI n - 1)) (su_an4 (su_in p2 0 99999) (su_in p3 0 2000) (su_in p4 0 20000) (su_in p5 0 2000)) (su_le p5 p3) (su_lt (nI t) 100)) = 2 := by rw [su_hin_i hj hn40, in_1 y1, in_0 x2]; simp [su_an4, su_gs]
      obtain ⟨e1, hw3⟩ := hp2 (by rw [hG]; decide)
      rw [hG] at hw3
      exact ⟨⟨0, e1⟩, (iv_fin hC hW hD hO hF hw3 hP).1⟩
    · skip
      rcases iv_kn hPH hn40 p1 with ⟨j, hj, rfl, e9j⟩ | ⟨-, e9⟩
      rotate_left
      · exact absurd e9 y0
      refine ⟨2, .inr (.inl ⟨rfl, rfl⟩), _, _, hW.1, c_M_test l z D ac sa P hm ma mv th al so n t hn40 ht100 (nI j) p2 p3 p4 p5 hW, ?_⟩
      intro w P3 hp
      obtain ⟨-, hp2, hF⟩ := hp
      have hG : (su_gs (su_in (nI j) 0 (nI n - 1)) (su_an4 (su_in p2 0 99999) (su_in p3 0 2000) (su_in p4 0 20000) (su_in p5 0 2000)) (su_le p5 p3) (su_lt (nI t) 100)) = 2 := by rw [su_hin_i hj hn40, in_1 y1, in_1 y2, in_0 x3]; by_cases h7 : su_in p4 0 20000 = 0 <;> simp [su_an4, su_gs, h7]
      obtain ⟨e1, hw3⟩ := hp2 (by rw [hG]; decide)
      rw [hG] at hw3
      exact ⟨⟨0, e1⟩, (iv_fin hC hW hD hO hF hw3 hP).1⟩
    · skip
      rcases iv_kn hPH hn40 p1 with ⟨j, hj, rfl, e9j⟩ | ⟨-, e9⟩
      rotate_left
      · exact absurd e9 y0
      refine ⟨2, .inr (.inl ⟨rfl, rfl⟩), _, _, hW.1, c_M_test l z D ac sa P hm ma mv th al so n t hn40 ht100 (nI j) p2 p3 p4 p5 hW, ?_⟩
      intro w P3 hp
      obtain ⟨-, hp2, hF⟩ := hp
      have hG : (su_gs (su_in (nI j) 0 (nI n - 1)) (su_an4 (su_in p2 0 99999) (su_in p3 0 2000) (su_in p4 0 20000) (su_in p5 0 2000)) (su_le p5 p3) (su_lt (nI t) 100)) = 2 := by rw [su_hin_i hj hn40, in_1 y1, in_1 y2, in_1 y3, in_0 x4]; simp [su_an4, su_gs]
      obtain ⟨e1, hw3⟩ := hp2 (by rw [hG]; decide)
      rw [hG] at hw3
      exact ⟨⟨0, e1⟩, (iv_fin hC hW hD hO hF hw3 hP).1⟩
    · skip
      rcases iv_kn hPH hn40 p1 with ⟨j, hj, rfl, e9j⟩ | ⟨-, e9⟩
      rotate_left
      · exact absurd e9 y0
      refine ⟨3, .inr (.inr (.inl ⟨rfl, rfl⟩)), _, _, hW.1, c_M_test l z D ac sa P hm ma mv th al so n t hn40 ht100 (nI j) p2 p3 p4 p5 hW, ?_⟩
      intro w P3 hp
      obtain ⟨-, hp2, hF⟩ := hp
      have hG : (su_gs (su_in (nI j) 0 (nI n - 1)) (su_an4 (su_in p2 0 99999) (su_in p3 0 2000) (su_in p4 0 20000) (su_in p5 0 2000)) (su_le p5 p3) (su_lt (nI t) 100)) = 3 := by rw [su_hin_i hj hn40, in_1 y1, in_1 y2, in_1 y3, in_1 y4, su_le, if_pos (Int32.not_le.mp x5)]; simp [su_an4, su_gs]
      obtain ⟨e1, hw3⟩ := hp2 (by rw [hG]; decide)
      rw [hG] at hw3
      exact ⟨⟨0, e1⟩, (iv_fin hC hW hD hO hF hw3 hP).1⟩
    · skip
      rcases iv_kn hPH hn40 p1 with ⟨j, hj, rfl, e9j⟩ | ⟨-, e9⟩
      rotate_left
      · exact absurd e9 y0
      refine ⟨4, .inr (.inr (.inr (⟨rfl, rfl⟩))), _, _, hW.1, c_M_test l z D ac sa P hm ma mv th al so n t hn40 ht100 (nI j) p2 p3 p4 p5 hW, ?_⟩
      intro w P3 hp
      obtain ⟨-, hp2, hF⟩ := hp
      have hG : (su_gs (su_in (nI j) 0 (nI n - 1)) (su_an4 (su_in p2 0 99999) (su_in p3 0 2000) (su_in p4 0 20000) (su_in p5 0 2000)) (su_le p5 p3) (su_lt (nI t) 100)) = 4 := by rw [su_hin_i hj hn40, in_1 y1, in_1 y2, in_1 y3, in_1 y4, su_le, if_neg (Int32.not_lt.mpr y5), su_lt, if_pos (Int32.not_lt.mp (fun h => x6 ⟨nI_pos (by omega), h⟩))]; decide
      obtain ⟨e1, hw3⟩ := hp2 (by rw [hG]; decide)
      rw [hG] at hw3
      exact ⟨⟨0, e1⟩, (iv_fin hC hW hD hO hF hw3 hP).1⟩
    · exact hx9.elim

theorem su_wf_z {mv : Nat → Nat → Int32} {j : Nat} {a b : Int32} : ∀ w, (su_wf mv j a b w = 1 ∨ su_wf mv j a b w = 0) ∧ (su_wf mv j a b w = 1 ↔ ∀ i, i < w → mv 7 (3 * j + i) < a ∨ b < mv 6 (3 * j + i))
  | 0 => ⟨.inl rfl, fun _ i hi => absurd hi (Nat.not_lt_zero i), fun _ => rfl⟩
  | w + 1 => by
    obtain ⟨h1, h2⟩ := su_wf_z (mv := mv) (j := j) (a := a) (b := b) w
    simp only [su_wf]
    by_cases g1 : mv 7 (3 * j + w) < a
    · rw [if_pos g1]
      refine ⟨h1, fun h i hi => ?_, fun h => h2.mpr (fun i hi => h i (by omega))⟩
      rcases Nat.lt_or_eq_of_le (Nat.le_of_lt_succ hi) with h3 | h3
      · exact h2.mp h i h3
      · rw [h3]; exact .inl g1
    · rw [if_neg g1]
      by_cases g2 : b < mv 6 (3 * j + w)
      · rw [if_pos g2]
        refine ⟨h1, fun h i hi => ?_, fun h => h2.mpr (fun i hi => h i (by omega))⟩
        rcases Nat.lt_or_eq_of_le (Nat.le_of_lt_succ hi) with h3 | h3
        · exact h2.mp h i h3
        · rw [h3]; exact .inr g2
      · rw [if_neg g2]
        refine ⟨.inr rfl, fun h => absurd h (by decide), fun h => ?_⟩
        rcases h w (by omega) with h3 | h3
        · exact absurd h3 g1
        · exact absurd h3 g2
theorem iv_wf {n : Nat} {ov : Nat → Nat → Int32} {fw : Nat → Nat → Option Nat} {mv : Nat → Nat → Int32} {hq wn : Nat → Nat} (hO : iv_O n ov fw mv hq wn) {j : Nat} (hj : j < n) {a b : Int32} : (su_m3 (ov 0) (ov 1) a b (fw (hq j)) = 0 ↔ su_wf mv j a b (wn j) = 1) := by
  obtain ⟨hw3, -, hwk⟩ := hO j hj
  rw [su_m3_z, (su_wf_z (wn j)).2]
  constructor
  · intro h i hi
    obtain ⟨o, f1, f2, f3⟩ := (hwk i (by omega)).1 hi
    have h4 := h i (by omega)
    rw [f1] at h4
    simp only [su_m1, f2, f3] at h4
    by_cases g1 : mv 7 (3 * j + i) < a
    · exact .inl g1
    · rw [if_neg g1] at h4
      by_cases g2 : b < mv 6 (3 * j + i)
      · exact .inr g2
      · rw [if_neg g2] at h4; cases h4
  · intro h i hi
    rcases Nat.lt_or_ge i (wn j) with h3 | h3
    · obtain ⟨o, f1, f2, f3⟩ := (hwk i hi).1 h3
      rw [f1]
      simp only [su_m1, f2, f3]
      rcases h i h3 with g1 | g1
      · rw [if_pos g1]
      · rw [if_pos g1]
        by_cases g2 : mv 7 (3 * j + i) < a
        · rw [if_pos g2]
        · rw [if_neg g2]
    · rw [(hwk i hi).2 h3]; rfl
theorem dd_1 {a b : Int32} (h1 : su_day a) (h2 : su_day b) (h3 : a ≤ b) : su_dd a b = 1 := by
  rw [su_dd, in_1 h1, in_1 h2, if_neg (Int32.not_lt.mpr h3)]; decide
theorem dd_0 {a b : Int32} (h : ¬ (su_day a ∧ su_day b ∧ a ≤ b)) : su_dd a b = 0 := by
  unfold su_dd
  by_cases h1 : su_in a 0 99999 = 0
  · rw [if_pos h1]
  · rw [if_neg h1]
    by_cases h2 : su_in b 0 99999 = 0
    · rw [if_pos h2]
    · rw [if_neg h2]
      by_cases h3 : b < a
      · rw [if_pos h3]
      · have g1 := su_in1 h1
        have g2 := su_in1 h2
        exact absurd ⟨⟨g1.1, Int32.not_lt.mp g1.2⟩, ⟨g2.1, Int32.not_lt.mp g2.2⟩, Int32.not_lt.mp h3⟩ h

set_option maxHeartbeats 4000000 in
set_option maxRecDepth 100000 in
theorem st_works (l : Launch) (hT : l.stackTraces = false) (z : Nat) (D : va_G) (ac : Nat → ClassId) (sa : Nat → Nat) (P : pm_T) (h0 hm ao : Nat) (th : Int32) (p1 : Int32) (p2 : Int32) (p3 : Int32) (hI : iv_I P ac h0 hm ao th) : ∃ (fs : List Value) (post : Option Value → pm_T → Prop) (xp : String → pm_T → Prop), P h0 = some (.inr (0, fs)) ∧ cx_V l yy_C_works bb_C_works 5 none ({ frames := 7, cells := 6, slots := 36, locals := 138 } : Room) z D ac sa P [.ref h0, .int p1, .int p2, .int p3] post xp ∧ (∀ v P1, post v P1 → v = none ∧ ∃ (vs : List Value) (mp : Option Value → pm_T → Prop), P1 hm = some (.inr (6, vs)) ∧ cx_M l yy_M_works bb_M_works 7 none ({ frames := 3, cells := 0, slots := 0, locals := 90 } : Room) z D ac sa (P1) [.ref hm, .int p1, .int p2, .int p3] mp ∧ ∀ w P3, mp w P3 → w = none ∧ iv_I P3 ac h0 hm ao 0) ∧ (∀ E P1, xp E P1 → ∃ cd : Int32, ((E = xn_IAE ∧ cd = 1) ∨ (E = xn_IOB ∧ cd = 2) ∨ (E = xn_ISE ∧ cd = 3) ∨ (E = xn_UOE ∧ cd = 4)) ∧ ∃ (vs : List Value) (mp : Option Value → pm_T → Prop), P1 hm = some (.inr (6, vs)) ∧ cx_M l yy_M_works bb_M_works 7 none ({ frames := 3, cells := 0, slots := 0, locals := 90 } : Room) z D ac sa (P1) [.ref hm, .int p1, .int p2, .int p3] mp ∧ ∀ w P3, mp w P3 → w = none ∧ iv_I P3 ac h0 hm ao cd) := by
  obtain ⟨ad, ma, n, t, al, so, fH, fT, hv, tv, ov, aw, ct, fw, lm, cn, lt, ks, kf, fC, fY, fB, mv, hq, tq, wn, fo0, hC, hW, hD, hO, hP⟩ := hI
  obtain ⟨g0, g1, g2, g3, g4, g6, g5, g7, g8, g9, gn, gy, gt⟩ := id hC
  obtain ⟨hPH, hPO, hPT, hPB, hPL⟩ := id hP
  have hn40 : n ≤ 40 := hPB.1.1
  have ht100 : t ≤ 100 := hPB.1.2
  refine ⟨_, _, _, g0, c_C_works l hT z D ac sa P h0 (ad 1) (ad 2) (ad 3) (ad 4) (ad 5) (nI n) (nI t) al fH hv tv ov aw ct fw p1 p2 p3 gy g0 g1, ?_, ?_⟩
  · rintro v P1 ⟨⟨x0, x1, x2, x3, x4, x5, -⟩, rfl, q9, o, hk, no, eP⟩
    rcases iv_kn hPH hn40 p1 with ⟨j, hj, rfl, e9j⟩ | ⟨-, e9⟩
    rotate_left
    · exact absurd e9 (su_ne hk)
    rw [e9j] at hk
    cases hk
    obtain ⟨w3, w5, wk⟩ := hPO j hj
    have e6 : hv 6 (hq j) = nI (wn j) := by rw [(hPH.2.2 j hj).2.2.2.2.2.1, w5]
    have hw2 : wn j < 3 := by
      have h := (su_ne2 (P := fun q => ¬ hv 6 q < 0 ∧ hv 6 q < 3) e9j x5).2
      rw [e6, show (3 : Int32) = nI 3 from rfl, nI_ltI (by omega) (by decide)] at h
      exact h
    have hqj := hq_at hPH hj
    have gq := (gy j (hq j) hqj).1
    have ga := (gy j (hq j) hqj).2.1
    rw [e6, nI_clamp (show wn j < 2 ^ 31 by omega), nI_1] at eP
    have hinj : ∀ k r, fH k = some r → r ≠ hq j → aw r ≠ aw (hq j) := fun k r hr hne e => by
      rw [hPH.1 k] at hr
      by_cases hkn : k < n
      · rw [if_pos hkn] at hr
        cases hr
        exact hne (by rw [hPH.2.1 k j hkn hj e])
      · rw [if_neg hkn] at hr; cases hr
    have hC1 := hC.newo (p2 := p2) (p3 := p3) (x6 := nI (wn j + 1)) (w := wn j) hqj no hinj
    rw [← eP] at hC1
    have hW1 : md_W P1 ac hm ma mv th (nI n) al (nI t) so := by
      have h1 := hW.up (x := .inr (3, [.int p2, .int p3])) (md_new hW no)
      have h2 := h1.up (a := aw (hq j)) (x := iv_r ac 5 3 (va_up (fw (hq j)) (wn j) (some o))) (md_ne hW ga rfl)
      have h3 := h2.up (a := hq j) (x := .inr (1, [.int (hv 0 (hq j)), .int (hv 1 (hq j)), .int (hv 2 (hq j)), .int (hv 3 (hq j)), .int (hv 4 (hq j)), .ref (aw (hq j)), .int (nI (wn j + 1)), .int (hv 7 (hq j)), .int (hv 8 (hq j)), .int (hv 9 (hq j)), va_rf (ct (hq j))])) (md_ne hW gq rfl)
      rw [← eP] at h3
      exact h3
    have hO1 : P1 ao = some (iv_o ac fo0) := by
      rw [eP, pm_n (pm_ne hO gq (by simp)), pm_n (pm_ne hO ga (by simp)), pm_n (fun e => by rw [e, no] at hO; cases hO)]
      exact hO
    have hfree : su_wf mv j p2 p3 (wn j) = 1 := (iv_wf hPO hj).mp (su_ne2 (P := fun q => su_m3 (ov 0) (ov 1) p2 p3 (fw q) = 0) e9j x4)
    refine ⟨rfl, _, _, hW1.1, c_M_worksW l z D ac sa _ hm ma mv th al so n t hn40 ht100 j hj p2 p3 (wn j) w3 w5 hW1, ?_⟩
    intro w P3 hp
    obtain ⟨hp1, -, hF⟩ := hp
    have hG : (su_gs 1 (su_dd p2 p3) (su_wf mv j p2 p3 (wn j)) (su_lt (nI (wn j)) 3)) = 0 := by rw [dd_1 x1 x2 x3, hfree, su_lt, if_neg (show ¬ (3 : Int32) ≤ nI (wn j) from nI_ge (b := 3) hw2 (by decide))]; decide
    obtain ⟨e1, hw3⟩ := hp1 hG
    rw [hG, nI_1] at hw3
    refine ⟨e1, (iv_fin hC1 hW1 hD hO1 hF hw3 (hq := hq) (tq := tq) (wn := va_up wn j (wn j + 1)) ?_).1⟩
    obtain ⟨b1, b2, b3, b4, b5, b6, b7, b8⟩ := id hPB
    refine ⟨⟨hPH.1, hPH.2.1, fun k hk => ?_⟩, fun k hk => ?_, hPT, ⟨b1, b2, b3, b4, b5, b6, b7, fun k h1 h2 => ?_⟩, hPL⟩
    · obtain ⟨t0, t1, t2, t3, t4, t6, t7, t8, t9, ta⟩ := hPH.2.2 k hk
      refine ⟨t0, t1, t2, t3, t4, ?_, t7, t8, t9, ta⟩
      show upd (hv 6) (hq j) (nI (wn j + 1)) (hq k) = upd (mv 5) j (nI (wn j + 1)) k
      by_cases hkj : k = j
      · subst hkj; rw [upd_s, upd_s]
      · rw [upd_n (fun h => hkj (hq_inj hPH hn40 hk hj h)), upd_n hkj]; exact t6
    · show va_up wn j (wn j + 1) k ≤ 3 ∧ upd (mv 5) j (nI (wn j + 1)) k = nI (va_up wn j (wn j + 1) k) ∧ ∀ i, i < 3 → (i < va_up wn j (wn j + 1) k → ∃ o', va_up fw (hq j) (va_up (fw (hq j)) (wn j) (some o)) (hq k) i = some o' ∧ upd (ov 0) o p2 o' = upd (mv 6) (3 * j + wn j) p2 (3 * k + i) ∧ upd (ov 1) o p3 o' = upd (mv 7) (3 * j + wn j) p3 (3 * k + i)) ∧ (va_up wn j (wn j + 1) k ≤ i → va_up fw (hq j) (va_up (fw (hq j)) (wn j) (some o)) (hq k) i = none)
      have hold : ∀ k', k' < n → ∀ i, i < 3 → i < wn k' → ¬ (k' = j ∧ i = wn j) → ∃ o', fw (hq k') i = some o' ∧ upd (ov 0) o p2 o' = upd (mv 6) (3 * j + wn j) p2 (3 * k' + i) ∧ upd (ov 1) o p3 o' = upd (mv 7) (3 * j + wn j) p3 (3 * k' + i) := fun k' hk' i hi hiw hne => by
        obtain ⟨o', f1, f2, f3⟩ := ((hPO k' hk').2.2 i hi).1 hiw
        have hoo : o' ≠ o := fun e => by
          have h := (gy k' _ (hq_at hPH hk')).2.2.1 i o' f1
          rw [e, no] at h
          cases h
        refine ⟨o', f1, ?_, ?_⟩
        · rw [upd_n hoo, upd_n (by omega)]; exact f2
        · rw [upd_n hoo, upd_n (by omega)]; exact f3
      by_cases hkj : k = j
      · subst hkj
        rw [vq_s, upd_s, vq_s]
        refine ⟨by omega, rfl, fun i hi => ⟨fun h => ?_, fun h => ?_⟩⟩
        · by_cases hiw : i = wn k
          · rw [hiw, vq_s]
            exact ⟨o, rfl, by rw [upd_s, upd_s], by rw [upd_s, upd_s]⟩
          · rw [vq_n hiw]
            exact hold k hk i hi (by omega) (fun h => hiw h.2)
        · rw [vq_n (by omega)]; exact (wk i hi).2 (by omega)
      · have hqk : hq k ≠ hq j := fun h => hkj (hq_inj hPH hn40 hk hj h)
        rw [vq_n hkj, upd_n hkj, vq_n hqk]
        obtain ⟨k3, k5, kk⟩ := hPO k hk
        exact ⟨k3, k5, fun i hi => ⟨fun h => hold k hk i hi h (fun h => hkj h.1), (kk i hi).2⟩⟩
    · obtain ⟨c1, c2, c3⟩ := b8 k h1 h2
      refine ⟨c1, ?_, c3⟩
      show upd (mv 5) j (nI (wn j + 1)) k = 0
      rw [upd_n (by omega)]; exact c2
  · rintro E P1 ⟨eP, hx⟩
    have eP := eP.symm
    subst eP
    rcases hx with ⟨x0, rfl⟩ | ⟨y0, (⟨x1, rfl⟩ | ⟨y1, (⟨x2, rfl⟩ | ⟨y2, (⟨x3, rfl⟩ | ⟨y3, (⟨x4, rfl⟩ | ⟨y4, (⟨x5, rfl⟩ | ⟨-, hx9⟩)⟩)⟩)⟩)⟩)⟩
    · skip
      rcases iv_kn hPH hn40 p1 with ⟨j, hj, rfl, e9⟩ | ⟨hA, e9⟩
      · exact absurd (by rw [e9]; exact fun h => nomatch h) x0
      · skip
        refine ⟨1, .inl ⟨rfl, rfl⟩, _, _, hW.1, c_M_worksA l z D ac sa P hm ma mv th al so n t hn40 ht100 p1 p2 p3 hA hW, ?_⟩
        intro w P3 hp
        obtain ⟨e1, hw3, hF⟩ := hp
        exact ⟨e1, (iv_fin hC hW hD hO hF hw3 hP).1⟩
    · skip
      rcases iv_kn hPH hn40 p1 with ⟨j, hj, rfl, e9j⟩ | ⟨-, e9⟩
      rotate_left
      · exact absurd e9 y0
      obtain ⟨w3, w5, wk⟩ := hPO j hj
      refine ⟨2, .inr (.inl ⟨rfl, rfl⟩), _, _, hW.1, c_M_worksW l z D ac sa P hm ma mv th al so n t hn40 ht100 j hj p2 p3 (wn j) w3 w5 hW, ?_⟩
      intro w P3 hp
      obtain ⟨-, hp2, hF⟩ := hp
      have hG : (su_gs 1 (su_dd p2 p3) (su_wf mv j p2 p3 (wn j)) (su_lt (nI (wn j)) 3)) = 2 := by rw [dd_0 (fun h7 => x1 h7.1)]; simp [su_gs]
      obtain ⟨e1, hw3⟩ := hp2 (by rw [hG]; decide)
      rw [hG] at hw3
      exact ⟨e1, (iv_fin hC hW hD hO hF hw3 hP).1⟩
    · skip
      rcases iv_kn hPH hn40 p1 with ⟨j, hj, rfl, e9j⟩ | ⟨-, e9⟩
      rotate_left
      · exact absurd e9 y0
      obtain ⟨w3, w5, wk⟩ := hPO j hj
      refine ⟨2, .inr (.inl ⟨rfl, rfl⟩), _, _, hW.1, c_M_worksW l z D ac sa P hm ma mv th al so n t hn40 ht100 j hj p2 p3 (wn j) w3 w5 hW, ?_⟩
      intro w P3 hp
      obtain ⟨-, hp2, hF⟩ := hp
      have hG : (su_gs 1 (su_dd p2 p3) (su_wf mv j p2 p3 (wn j)) (su_lt (nI (wn j)) 3)) = 2 := by rw [dd_0 (fun h7 => x2 h7.2.1)]; simp [su_gs]
      obtain ⟨e1, hw3⟩ := hp2 (by rw [hG]; decide)
      rw [hG] at hw3
      exact ⟨e1, (iv_fin hC hW hD hO hF hw3 hP).1⟩
    · skip
      rcases iv_kn hPH hn40 p1 with ⟨j, hj, rfl, e9j⟩ | ⟨-, e9⟩
      rotate_left
      · exact absurd e9 y0
      obtain ⟨w3, w5, wk⟩ := hPO j hj
      refine ⟨2, .inr (.inl ⟨rfl, rfl⟩), _, _, hW.1, c_M_worksW l z D ac sa P hm ma mv th al so n t hn40 ht100 j hj p2 p3 (wn j) w3 w5 hW, ?_⟩
      intro w P3 hp
      obtain ⟨-, hp2, hF⟩ := hp
      have hG : (su_gs 1 (su_dd p2 p3) (su_wf mv j p2 p3 (wn j)) (su_lt (nI (wn j)) 3)) = 2 := by rw [dd_0 (fun h7 => x3 h7.2.2)]; simp [su_gs]
      obtain ⟨e1, hw3⟩ := hp2 (by rw [hG]; decide)
      rw [hG] at hw3
      exact ⟨e1, (iv_fin hC hW hD hO hF hw3 hP).1⟩
    · skip
      rcases iv_kn hPH hn40 p1 with ⟨j, hj, rfl, e9j⟩ | ⟨-, e9⟩
      rotate_left
      · exact absurd e9 y0
      obtain ⟨w3, w5, wk⟩ := hPO j hj
      have hfree : su_wf mv j p2 p3 (wn j) = 0 := (su_wf_z (wn j)).1.resolve_left (fun h => su_nx2 (P := fun q => su_m3 (ov 0) (ov 1) p2 p3 (fw q) = 0) e9j x4 ((iv_wf hPO hj).mpr h))
      refine ⟨3, .inr (.inr (.inl ⟨rfl, rfl⟩)), _, _, hW.1, c_M_worksW l z D ac sa P hm ma mv th al so n t hn40 ht100 j hj p2 p3 (wn j) w3 w5 hW, ?_⟩
      intro w P3 hp
      obtain ⟨-, hp2, hF⟩ := hp
      have hG : (su_gs 1 (su_dd p2 p3) (su_wf mv j p2 p3 (wn j)) (su_lt (nI (wn j)) 3)) = 3 := by rw [dd_1 y1 y2 y3, hfree]; simp [su_gs]
      obtain ⟨e1, hw3⟩ := hp2 (by rw [hG]; decide)
      rw [hG] at hw3
      exact ⟨e1, (iv_fin hC hW hD hO hF hw3 hP).1⟩
    · skip
      rcases iv_kn hPH hn40 p1 with ⟨j, hj, rfl, e9j⟩ | ⟨-, e9⟩
      rotate_left
      · exact absurd e9 y0
      obtain ⟨w3, w5, wk⟩ := hPO j hj
      have hfree : su_wf mv j p2 p3 (wn j) = 1 := (iv_wf hPO hj).mp (su_ne2 (P := fun q => su_m3 (ov 0) (ov 1) p2 p3 (fw q) = 0) e9j y4)
      have e6 : hv 6 (hq j) = nI (wn j) := by rw [(hPH.2.2 j hj).2.2.2.2.2.1, w5]
      have h3 : (3 : Int32) ≤ nI (wn j) := Int32.not_lt.mp (fun h => su_nx2 (P := fun q => ¬ hv 6 q < 0 ∧ hv 6 q < 3) e9j x5 (by rw [e6]; exact ⟨nI_pos (by omega), h⟩))
      refine ⟨4, .inr (.inr (.inr (⟨rfl, rfl⟩))), _, _, hW.1, c_M_worksW l z D ac sa P hm ma mv th al so n t hn40 ht100 j hj p2 p3 (wn j) w3 w5 hW, ?_⟩
      intro w P3 hp
      obtain ⟨-, hp2, hF⟩ := hp
      have hG : (su_gs 1 (su_dd p2 p3) (su_wf mv j p2 p3 (wn j)) (su_lt (nI (wn j)) 3)) = 4 := by rw [dd_1 y1 y2 y3, hfree, su_lt, if_pos h3]; decide
      obtain ⟨e1, hw3⟩ := hp2 (by rw [hG]; decide)
      rw [hG] at hw3
      exact ⟨e1, (iv_fin hC hW hD hO hF hw3 hP).1⟩
    · exact hx9.elim

theorem st_allow (l : Launch) (z : Nat) (D : va_G) (ac : Nat → ClassId) (sa : Nat → Nat) (P : pm_T) (h0 hm ao : Nat) (th p1 : Int32) (hp1 : p1 = 0 ∨ p1 = 1) (hI : iv_I P ac h0 hm ao th) : ∃ (fs : List Value) (post : Option Value → pm_T → Prop), P h0 = some (.inr (0, fs)) ∧ cx_M l yy_C_allow bb_C_allow 2 none ({ frames := 0, cells := 0, slots := 0, locals := 0 } : Room) z D ac sa P [.ref h0, .int p1] post ∧ ∀ v P1, post v P1 → v = none ∧ ∃ (vs : List Value) (mp : Option Value → pm_T → Prop), P1 hm = some (.inr (6, vs)) ∧ cx_M l yy_M_allow bb_M_allow 2 none ({ frames := 0, cells := 0, slots := 0, locals := 0 } : Room) z D ac sa P1 [.ref hm, .int p1] mp ∧ ∀ w P3, mp w P3 → w = none ∧ iv_I P3 ac h0 hm ao 0 := by
  obtain ⟨ad, ma, n, t, al, so, fH, fT, hv, tv, ov, aw, ct, fw, lm, cn, lt, ks, kf, fC, fY, fB, mv, hq, tq, wn, fo0, hC, hW, hD, hO, hP⟩ := hI
  obtain ⟨g0, g1, g2, g3, g4, g6, g5, g7, g8, g9, gn, gy, gt⟩ := id hC
  obtain ⟨hPH, hPO, hPT, hPB, hPL⟩ := id hP
  have hn40 : n ≤ 40 := hPB.1.1
  have ht100 : t ≤ 100 := hPB.1.2
  refine ⟨_, _, g0, c_C_allow l z D ac sa P h0 (ad 1) (ad 2) (ad 3) (ad 4) (ad 5) (nI n) (nI t) al p1 hp1 g0, ?_⟩
  rintro v P1 ⟨rfl, eP⟩
  subst eP
  have hC1 := hC.obj (n1 := n) (t1 := t) (al1 := p1)
  have hW1 := hW.up (x := .inr (0, [.ref (ad 1), .ref (ad 2), .ref (ad 3), .ref (ad 4), .ref (ad 5), .int (nI n), .int (nI t), .int p1])) (md_ne hW g0 rfl)
  have hO1 : pm_up P h0 (.inr (0, [.ref (ad 1), .ref (ad 2), .ref (ad 3), .ref (ad 4), .ref (ad 5), .int (nI n), .int (nI t), .int p1])) ao = some (iv_o ac fo0) := by rw [pm_n (pm_ne hO g0 (by simp))]; exact hO
  refine ⟨rfl, _, _, hW1.1, c_M_allow l z D ac sa _ hm ma mv th al so n t hn40 ht100 p1 hp1 hW1, ?_⟩
  rintro w P3 ⟨e1, hw3, hF⟩
  obtain ⟨b1, b2, b3⟩ := id hPB
  exact ⟨e1, (iv_fin hC1 hW1 hD hO1 hF hw3 (hq := hq) (tq := tq) (wn := wn) ⟨hPH, hPO, hPT, ⟨b1, hp1, b3⟩, hPL⟩).1⟩
