theorem n3_0 {a b c : Int32} (h : ¬ (¬ a = 0 ∧ ¬ b = 0 ∧ ¬ c < 0)) : su_n3 a b c = 0 := by
  unfold su_n3
  by_cases h1 : a = 0
  · rw [if_pos h1]
  · rw [if_neg h1]
    by_cases h2 : b = 0
    · rw [if_pos h2]
    · rw [if_neg h2]
      by_cases h3 : c < 0
      · rw [if_pos h3]
      · exact absurd ⟨h1, h2, h3⟩ h
theorem in_n0 {v a b : Int32} (h : ¬ su_in v a b = 0) : ¬ v < a ∧ v ≤ b := ⟨(su_in1 h).1, Int32.not_lt.mp (su_in1 h).2⟩
theorem pm_n0 {x y : Int32} (h : ¬ su_pm x y = 0) : su_pl x y := Classical.byContradiction (fun h1 => h (pm_0 h1))
theorem iv_lat {n t : Nat} {al so : Int32} {fH fT : Nat → Option Nat} {hv tv : Nat → Nat → Int32} {aw : Nat → Nat} {ct : Nat → Option Nat} {mv : Nat → Nat → Int32} {hq tq : Nat → Nat} (hH : iv_H n t fH hv aw ct mv hq tq) (hT : iv_T t fT tv mv tq) (hB : iv_B n t al so mv) {p1 p2 : Int32} {k : Nat} (hk : k < n) : (su_od (tv 2) (ct (hq k)) p1 p2 = 0 ↔ su_oz (su_lat mv t p1 p2 k) = 0) ∧ (¬ su_oz (su_lat mv t p1 p2 k) = 0 → su_lat mv t p1 p2 k = nI (su_lat mv t p1 p2 k).toNatClampNeg ∧ (su_lat mv t p1 p2 k).toNatClampNeg ≤ 200000 ∧ su_ow (tv 2) (ct (hq k)) = su_lat mv t p1 p2 k) := by
  have t9 := (hH.2.2 k hk).2.2.2.2.2.2.2.2.1
  rw [t9]
  rcases hq9 : su_cm (mv 10) (mv 11) (nI k) t with _ | i
  · have e : su_lat mv t p1 p2 k = 0 := by simp only [su_lat, hq9]
    rw [e]
    exact ⟨show ((1 : Int32) = 0 ↔ su_oz 0 = 0) from by decide, fun _ => ⟨by decide, by decide, rfl⟩⟩
  · have hi := su_cm_lt hq9
    have u2 := (hT.2 i hi).2.2.1
    obtain ⟨⟨d, hd, ed⟩, -⟩ := hB.2.2.2.2.1 i hi
    by_cases h1 : p1 - mv 11 i ≤ p2
    · have e : su_lat mv t p1 p2 k = -1 := by simp only [su_lat, hq9, if_pos h1]
      rw [e]
      refine ⟨?_, fun h => absurd (by decide) h⟩
      show (if p1 - tv 2 (tq i) ≤ p2 then (0 : Int32) else 1) = 0 ↔ _
      rw [u2, if_pos h1]
      exact ⟨fun _ => by decide, fun _ => rfl⟩
    · have e : su_lat mv t p1 p2 k = nI (1 + d) := by simp only [su_lat, hq9, if_neg h1]; rw [ed]; exact nI_add 1 d
      have e2 : tv 2 (tq i) + 1 = nI (1 + d) := by rw [u2, ed, nI_1, Nat.add_comm]
      rw [e, nI_clamp (by omega)]
      have hz : ¬ su_oz (nI (1 + d)) = 0 := su_oz1 (nI_pos' (by omega))
      refine ⟨?_, fun _ => ⟨rfl, by omega, e2⟩⟩
      show (if p1 - tv 2 (tq i) ≤ p2 then (0 : Int32) else 1) = 0 ↔ _
      rw [u2, if_neg h1]
      exact ⟨fun h => absurd h (by decide), fun h => absurd h hz⟩

set_option maxHeartbeats 4000000 in
set_option maxRecDepth 100000 in
theorem st_near (l : Launch) (hT : l.stackTraces = false) (z : Nat) (D : va_G) (ac : Nat → ClassId) (sa : Nat → Nat) (P : pm_T) (h0 hm ao : Nat) (th : Int32) (p1 : Int32) (p2 : Int32) (p3 : Int32) (p4 : Int32) (hI : iv_I P ac h0 hm ao th) : ∃ (fs : List Value) (post : Option Value → pm_T → Prop) (xp : String → pm_T → Prop), P h0 = some (.inr (0, fs)) ∧ cx_V l yy_C_near bb_C_near 9 (some .int) ({ frames := 7, cells := 3, slots := 18, locals := 111 } : Room) z D ac sa P [.ref h0, .int p1, .int p2, .int p3, .int p4] post xp ∧ (∀ v P1, post v P1 → ∃ (r : Int32) (fo : Nat → Int64), v = some (.int r) ∧ P1 ao = some (iv_o ac fo) ∧ ∀ x : Nat → Int64, ∃ (vs : List Value) (mp : Option Value → pm_T → Prop), (pm_up P1 ao (iv_o ac x)) hm = some (.inr (6, vs)) ∧ cx_M l yy_M_near bb_M_near 10 (some .int) ({ frames := 3, cells := 0, slots := 0, locals := 90 } : Room) z D ac sa (pm_up P1 ao (iv_o ac x)) [.ref hm, .int p1, .int p2, .int p3, .int p4] mp ∧ ∀ w P3, mp w P3 → w = some (.int r) ∧ iv_I P3 ac h0 hm ao 0 ∧ P3 ao = some (iv_o ac x)) ∧ (∀ E P1, xp E P1 → ∃ cd : Int32, ((E = xn_IOB ∧ cd = 1)) ∧ ∃ (vs : List Value) (mp : Option Value → pm_T → Prop), P1 hm = some (.inr (6, vs)) ∧ cx_M l yy_M_near bb_M_near 10 (some .int) ({ frames := 3, cells := 0, slots := 0, locals := 90 } : Room) z D ac sa (P1) [.ref hm, .int p1, .int p2, .int p3, .int p4] mp ∧ ∀ w P3, mp w P3 → (∃ b, w = some (.int b)) ∧ iv_I P3 ac h0 hm ao cd) := by
  obtain ⟨ad, ma, n, t, al, so, fH, fT, hv, tv, ov, aw, ct, fw, lm, cn, lt, ks, kf, fC, fY, fB, mv, hq, tq, wn, fo0, hC, hW, hD, hO, hP⟩ := hI
  obtain ⟨g0, g1, g2, g3, g4, g6, g5, g7, g8, g9, gn, gy, gt⟩ := id hC
  obtain ⟨hPH, hPO, hPT, hPB, hPL⟩ := id hP
  have hn40 : n ≤ 40 := hPB.1.1
  have ht100 : t ≤ 100 := hPB.1.2
  refine ⟨_, _, _, g0, c_C_near l hT z D ac sa P h0 (ad 1) (ad 2) (ad 3) (ad 4) (ad 5) (nI n) (nI t) al (ad 6) ks kf fH hv tv ov aw ct fw p1 p2 p3 p4 gy g0 g1 g4 g6, ?_, ?_⟩
  · rintro v P1 ⟨⟨x0, x1, x2⟩, kg, hr, rfl, eP⟩
    obtain ⟨d, hd, rfl⟩ := day_n x1
    obtain ⟨i, hi, rfl⟩ := nI_of (g0_1 x2)
    have R := su_num_kt (us := fun j => su_mus mv al j d (wn j)) (wt := fun j => su_mh mv p1 p2 j) (w := fun k => su_ds1 (mv 0 k) (mv 1 k) p1 p2) hn40 (fun k hk _ => ⟨(su_hose_m hPB hk (pm_1 x0)).1, (su_hose_m hPB hk (pm_1 x0)).2.2⟩) hPH.1 (fun k hk => by rw [iv_us hPH hPO hPB hk hd]) (fun k hk _ => by
      obtain ⟨t0, t1, t2, -⟩ := hPH.2.2 k hk
      obtain ⟨h1, h2, h3⟩ := su_hose_m hPB hk (pm_1 x0)
      rw [t0, t1, t2, h2, h1, show (40 : Int32) = nI 40 from rfl, nI_mul, nI_add]
      rfl) hr
    subst eP
    have hC1 := hC.rank (kg := kg) (ks1 := nI (su_nk fH (fun q => su_us (hv 7 q) (hv 4 q) (hv 8 q) al (nI d) (ov 0) (ov 1) (fw q)) (fun q => su_hose (hv 1 q) (hv 2 q) p1 p2 * 40 + hv 0 q) 40).length)
    have hW0 := hW.up (a := ad 6) (x := .inl (ac 0, 40, .inl kg)) ⟨pm_ne g6 hW.1 (by simp), fun k hk => (hD k hk).2.1⟩
    have hW1 := hW0.up (a := ad 4) (x := .inr (4, [.ref (ad 6), .int (nI (su_nk fH (fun q => su_us (hv 7 q) (hv 4 q) (hv 8 q) al (nI d) (ov 0) (ov 1) (fw q)) (fun q => su_hose (hv 1 q) (hv 2 q) p1 p2 * 40 + hv 0 q) 40).length)])) (md_ne hW g4 rfl)
    have hO1 : pm_up (pm_up P (ad 6) (.inl (ac 0, 40, .inl kg))) (ad 4) (.inr (4, [.ref (ad 6), .int (nI (su_nk fH (fun q => su_us (hv 7 q) (hv 4 q) (hv 8 q) al (nI d) (ov 0) (ov 1) (fw q)) (fun q => su_hose (hv 1 q) (hv 2 q) p1 p2 * 40 + hv 0 q) 40).length)])) ao = some (iv_o ac fo0) := by rw [pm_n (pm_ne hO g4 (by simp)), pm_n (pm_ne hO g6 (by simp))]; exact hO
    refine ⟨_, fo0, rfl, hO1, fun x => ?_⟩
    have hC2 := hC1.out hO1 (x := iv_o ac x)
    have hW2 := hW1.up (x := iv_o ac x) (md_neo hW1 hO1)
    have hO2 : pm_up (pm_up (pm_up P (ad 6) (.inl (ac 0, 40, .inl kg))) (ad 4) (.inr (4, [.ref (ad 6), .int (nI (su_nk fH (fun q => su_us (hv 7 q) (hv 4 q) (hv 8 q) al (nI d) (ov 0) (ov 1) (fw q)) (fun q => su_hose (hv 1 q) (hv 2 q) p1 p2 * 40 + hv 0 q) 40).length)]))) ao (iv_o ac x) ao = some (iv_o ac x) := pm_s
    refine ⟨_, _, hW2.1, c_M_nearC l z D ac sa _ hm ma mv th al so n t hn40 ht100 p1 p2 (pm_1 x0) d hd wn (fun j hj => ⟨(hPO j hj).1, (hPO j hj).2.1⟩) i hi R.2 hW2, ?_⟩
    rintro w P3 ⟨e1, hw3, hF⟩
    exact ⟨by rw [e1, R.1 i hi], iv_fin hC2 hW2 hD hO2 hF hw3 hP⟩
  · rintro E P1 ⟨rfl, eP, hx⟩
    have eP := eP.symm
    subst eP
    refine ⟨1, ⟨rfl, rfl⟩, _, _, hW.1, c_M_nearA l z D ac sa P hm ma mv th al so n t hn40 ht100 p1 p2 p3 p4 (n3_0 (fun h => hx ⟨pm_n0 h.1, in_n0 h.2.1, Int32.not_lt.mp h.2.2⟩)) hW, ?_⟩
    intro w P3 hp
    obtain ⟨e1, hw3, hF⟩ := hp
    exact ⟨⟨0, e1⟩, (iv_fin hC hW hD hO hF hw3 hP).1⟩

set_option maxHeartbeats 4000000 in
set_option maxRecDepth 100000 in
theorem st_overdue (l : Launch) (hT : l.stackTraces = false) (z : Nat) (D : va_G) (ac : Nat → ClassId) (sa : Nat → Nat) (P : pm_T) (h0 hm ao : Nat) (th : Int32) (p1 : Int32) (p2 : Int32) (p3 : Int32) (hI : iv_I P ac h0 hm ao th) : ∃ (fs : List Value) (post : Option Value → pm_T → Prop) (xp : String → pm_T → Prop), P h0 = some (.inr (0, fs)) ∧ cx_V l yy_C_overdue bb_C_overdue 8 (some .int) ({ frames := 7, cells := 2, slots := 12, locals := 111 } : Room) z D ac sa P [.ref h0, .int p1, .int p2, .int p3] post xp ∧ (∀ v P1, post v P1 → ∃ (r : Int32) (fo : Nat → Int64), v = some (.int r) ∧ P1 ao = some (iv_o ac fo) ∧ ∀ x : Nat → Int64, ∃ (vs : List Value) (mp : Option Value → pm_T → Prop), (pm_up P1 ao (iv_o ac x)) hm = some (.inr (6, vs)) ∧ cx_M l yy_M_overdue bb_M_overdue 10 (some .int) ({ frames := 3, cells := 0, slots := 0, locals := 90 } : Room) z D ac sa (pm_up P1 ao (iv_o ac x)) [.ref hm, .int p1, .int p2, .int p3] mp ∧ ∀ w P3, mp w P3 → w = some (.int r) ∧ iv_I P3 ac h0 hm ao 0 ∧ P3 ao = some (iv_o ac x)) ∧ (∀ E P1, xp E P1 → ∃ cd : Int32, ((E = xn_IOB ∧ cd = 1)) ∧ ∃ (vs : List Value) (mp : Option Value → pm_T → Prop), P1 hm = some (.inr (6, vs)) ∧ cx_M l yy_M_overdue bb_M_overdue 10 (some .int) ({ frames := 3, cells := 0, slots := 0, locals := 90 } : Room) z D ac sa (P1) [.ref hm, .int p1, .int p2, .int p3] mp ∧ ∀ w P3, mp w P3 → (∃ b, w = some (.int b)) ∧ iv_I P3 ac h0 hm ao cd) := by
  obtain ⟨ad, ma, n, t, al, so, fH, fT, hv, tv, ov, aw, ct, fw, lm, cn, lt, ks, kf, fC, fY, fB, mv, hq, tq, wn, fo0, hC, hW, hD, hO, hP⟩ := hI
  obtain ⟨g0, g1, g2, g3, g4, g6, g5, g7, g8, g9, gn, gy, gt⟩ := id hC
  obtain ⟨hPH, hPO, hPT, hPB, hPL⟩ := id hP
  have hn40 : n ≤ 40 := hPB.1.1
  have ht100 : t ≤ 100 := hPB.1.2
  refine ⟨_, _, _, g0, c_C_overdue l hT z D ac sa P h0 (ad 1) (ad 2) (ad 3) (ad 4) (ad 5) (nI n) (nI t) al (ad 6) ks kf fH hv tv ov aw ct fw p1 p2 p3 gy g0 g1 g4 g6, ?_, ?_⟩
  · rintro v P1 ⟨⟨x0, x1, x2⟩, kg, hr, rfl, eP⟩
    obtain ⟨i, hi, rfl⟩ := nI_of (g0_1 x2)
    have R := su_num_kt (us := fun j => su_oz (su_lat mv t p1 p2 j)) (wt := fun j => su_lat mv t p1 p2 j) (w := fun k => (su_lat mv t p1 p2 k).toNatClampNeg) hn40 (fun k hk hu => ⟨((iv_lat hPH hPT hPB hk).2 hu).1, ((iv_lat hPH hPT hPB hk).2 hu).2.1⟩) hPH.1 (fun k hk => (iv_lat hPH hPT hPB hk).1) (fun k hk hu => by
      obtain ⟨t0, -⟩ := hPH.2.2 k hk
      obtain ⟨h1, h2, h3⟩ := (iv_lat hPH hPT hPB hk).2 hu
      rw [h3, t0, h1, show (40 : Int32) = nI 40 from rfl, nI_mul, nI_add]
      rfl) hr
    subst eP
    have hC1 := hC.rank (kg := kg) (ks1 := nI (su_nk fH (fun q => su_od (tv 2) (ct q) p1 p2) (fun q => su_ow (tv 2) (ct q) * 40 + hv 0 q) 40).length)
    have hW0 := hW.up (a := ad 6) (x := .inl (ac 0, 40, .inl kg)) ⟨pm_ne g6 hW.1 (by simp), fun k hk => (hD k hk).2.1⟩
    have hW1 := hW0.up (a := ad 4) (x := .inr (4, [.ref (ad 6), .int (nI (su_nk fH (fun q => su_od (tv 2) (ct q) p1 p2) (fun q => su_ow (tv 2) (ct q) * 40 + hv 0 q) 40).length)])) (md_ne hW g4 rfl)
    have hO1 : pm_up (pm_up P (ad 6) (.inl (ac 0, 40, .inl kg))) (ad 4) (.inr (4, [.ref (ad 6), .int (nI (su_nk fH (fun q => su_od (tv 2) (ct q) p1 p2) (fun q => su_ow (tv 2) (ct q) * 40 + hv 0 q) 40).length)])) ao = some (iv_o ac fo0) := by rw [pm_n (pm_ne hO g4 (by simp)), pm_n (pm_ne hO g6 (by simp))]; exact hO
    refine ⟨_, fo0, rfl, hO1, fun x => ?_⟩
    have hC2 := hC1.out hO1 (x := iv_o ac x)
    have hW2 := hW1.up (x := iv_o ac x) (md_neo hW1 hO1)
    have hO2 : pm_up (pm_up (pm_up P (ad 6) (.inl (ac 0, 40, .inl kg))) (ad 4) (.inr (4, [.ref (ad 6), .int (nI (su_nk fH (fun q => su_od (tv 2) (ct q) p1 p2) (fun q => su_ow (tv 2) (ct q) * 40 + hv 0 q) 40).length)]))) ao (iv_o ac x) ao = some (iv_o ac x) := pm_s
    refine ⟨_, _, hW2.1, c_M_overdueC l z D ac sa _ hm ma mv th al so n t hn40 ht100 p1 p2 (in_1 x0) (in_1 x1) i hi R.2 hW2, ?_⟩
    rintro w P3 ⟨e1, hw3, hF⟩
    exact ⟨by rw [e1, R.1 i hi], iv_fin hC2 hW2 hD hO2 hF hw3 hP⟩
  · rintro E P1 ⟨rfl, eP, hx⟩
    have eP := eP.symm
    subst eP
    refine ⟨1, ⟨rfl, rfl⟩, _, _, hW.1, c_M_overdueA l z D ac sa P hm ma mv th al so n t hn40 ht100 p1 p2 p3 (n3_0 (fun h => hx ⟨in_n0 h.1, in_n0 h.2.1, Int32.not_lt.mp h.2.2⟩)) hW, ?_⟩
    intro w P3 hp
    obtain ⟨e1, hw3, hF⟩ := hp
    exact ⟨⟨0, e1⟩, (iv_fin hC hW hD hO hF hw3 hP).1⟩
