set_option maxHeartbeats 4000000 in
set_option maxRecDepth 100000 in
theorem st_stop (l : Launch) (hT : l.stackTraces = false) (z : Nat) (D : va_G) (ac : Nat → ClassId) (sa : Nat → Nat) (P : pm_T) (h0 hm ao : Nat) (th : Int32) (p1 : Int32) (hI : iv_I P ac h0 hm ao th) : ∃ (fs : List Value) (post : Option Value → pm_T → Prop) (xp : String → pm_T → Prop), P h0 = some (.inr (0, fs)) ∧ cx_V l yy_C_stop bb_C_stop 2 (some .int) ({ frames := 7, cells := 1, slots := 6, locals := 138 } : Room) z D ac sa P [.ref h0, .int p1] post xp ∧ (∀ v P1, post v P1 → ∃ (r : Int32) (fo : Nat → Int64), v = some (.int r) ∧ P1 ao = some (iv_o ac fo) ∧ ∀ x : Nat → Int64, ∃ (vs : List Value) (mp : Option Value → pm_T → Prop), (pm_up P1 ao (iv_o ac x)) hm = some (.inr (6, vs)) ∧ cx_M l yy_M_stop bb_M_stop 2 (some .int) ({ frames := 3, cells := 0, slots := 0, locals := 90 } : Room) z D ac sa (pm_up P1 ao (iv_o ac x)) [.ref hm, .int p1] mp ∧ ∀ w P3, mp w P3 → w = some (.int r) ∧ iv_I P3 ac h0 hm ao 0 ∧ P3 ao = some (iv_o ac x)) ∧ (∀ E P1, xp E P1 → ∃ cd : Int32, ((E = xn_IOB ∧ cd = 1)) ∧ ∃ (vs : List Value) (mp : Option Value → pm_T → Prop), P1 hm = some (.inr (6, vs)) ∧ cx_M l yy_M_stop bb_M_stop 2 (some .int) ({ frames := 3, cells := 0, slots := 0, locals := 90 } : Room) z D ac sa (P1) [.ref hm, .int p1] mp ∧ ∀ w P3, mp w P3 → (∃ b, w = some (.int b)) ∧ iv_I P3 ac h0 hm ao cd) := by
  obtain ⟨ad, ma, n, t, al, so, fH, fT, hv, tv, ov, aw, ct, fw, lm, cn, lt, ks, kf, fC, fY, fB, mv, hq, tq, wn, fo0, hC, hW, hD, hO, hP⟩ := hI
  obtain ⟨g0, g1, g2, g3, g4, g6, g5, g7, g8, g9, gn, gy, gt⟩ := id hC
  obtain ⟨hPH, hPO, hPT, hPB, hPL⟩ := id hP
  have hn40 : n ≤ 40 := hPB.1.1
  have ht100 : t ≤ 100 := hPB.1.2
  refine ⟨_, _, _, g0, c_C_stop l hT z D ac sa P h0 (ad 1) (ad 2) (ad 3) (ad 4) (ad 5) (nI n) (nI t) al (ad 7) (ad 8) (ad 9) cn lt fC fY fB p1 g0 g5 g9, ?_, ?_⟩
  · rintro v P1 ⟨⟨x0, -⟩, eP, rfl⟩
    obtain ⟨c, hc, hso⟩ := hPB.2.2.1
    have h0 := g0_1 x0
    have eP := eP.symm
    subst eP
    refine ⟨_, fo0, rfl, hO, fun x => ?_⟩
    have hC2 := hC.out hO (x := iv_o ac x)
    have hW2 := hW.up (x := iv_o ac x) (md_neo hW hO)
    have hO2 : pm_up P ao (iv_o ac x) ao = some (iv_o ac x) := pm_s
    refine ⟨_, _, hW2.1, c_M_stopC l z D ac sa _ hm ma mv th al so n t hn40 ht100 p1 h0 (by rw [hso]; exact nI_le (b := 6) hc (by decide)) hW2, ?_⟩
    intro w P3 hp
    obtain ⟨e1, hw3, hF⟩ := hp
    refine ⟨?_, iv_fin hC2 hW2 hD hO2 hF hw3 hP⟩
    rw [e1]
    rw [if_neg h0, hPL.2.1]
    by_cases h1 : so ≤ p1
    · rw [if_pos h1, if_pos h1]
    · rw [if_neg h1, if_neg h1]
      obtain ⟨j, hj, rfl⟩ := nI_of h0
      have h2 : nI j < so := Int32.not_le.mp h1
      have h3 : j < c := by rw [hso, nI_ltI hj (by omega)] at h2; exact h2
      rw [if_neg (show ¬ (6 : Int32) ≤ nI j from nI_ge (a := j) (b := 6) (by omega) (by decide)), nI_clamp hj, hPL.2.2 j h2 (by omega)]
  · rintro E P1 ⟨eP, hx⟩
    have eP := eP.symm
    subst eP
    rcases hx with ⟨x0, rfl⟩ | ⟨-, hx9⟩
    · skip
      refine ⟨1, ⟨rfl, rfl⟩, _, _, hW.1, c_M_stopA l z D ac sa P hm ma mv th al so n t hn40 ht100 p1 (g0_0 x0) hW, ?_⟩
      intro w P3 hp
      obtain ⟨e1, hw3, hF⟩ := hp
      exact ⟨⟨0, e1⟩, (iv_fin hC hW hD hO hF hw3 hP).1⟩
    · exact hx9.elim

theorem su_w4 {p : Int32} (h : ¬ (p.toInt < 0 ∨ 4 < p.toInt)) : su_in p 0 4 = 1 := by
  have e0 : (0 : Int32).toInt = 0 := by decide
  have e4 : (4 : Int32).toInt = 4 := by decide
  exact in_1 (by rw [Int32.lt_iff_toInt_lt, Int32.le_iff_toInt_le]; omega)
theorem su_w4z {p : Int32} (h : ¬ ¬ (p.toInt < 0 ∨ 4 < p.toInt)) : su_in p 0 4 = 0 := by
  have e0 : (0 : Int32).toInt = 0 := by decide
  have e4 : (4 : Int32).toInt = 4 := by decide
  exact in_0 (by rw [Int32.lt_iff_toInt_lt, Int32.le_iff_toInt_le]; omega)
theorem su_w5 {p : Int32} (h : ¬ (p.toInt < 0 ∨ 5 < p.toInt)) : su_in p 0 5 = 1 := by
  have e0 : (0 : Int32).toInt = 0 := by decide
  have e4 : (5 : Int32).toInt = 5 := by decide
  exact in_1 (by rw [Int32.lt_iff_toInt_lt, Int32.le_iff_toInt_le]; omega)
theorem su_w5z {p : Int32} (h : ¬ ¬ (p.toInt < 0 ∨ 5 < p.toInt)) : su_in p 0 5 = 0 := by
  have e0 : (0 : Int32).toInt = 0 := by decide
  have e4 : (5 : Int32).toInt = 5 := by decide
  exact in_0 (by rw [Int32.lt_iff_toInt_lt, Int32.le_iff_toInt_le]; omega)
theorem su_cn_oi {t : Nat} {fT : Nat → Option Nat} {tv mv : Nat → Nat → Int32} {tq : Nat → Nat} (hT : iv_T t fT tv mv tq) {o : Option Nat} (ho : ∀ i, o = some i → i < t) : su_cn (tv 0) (o.map tq) = su_oi o := by
  rcases o with _ | i
  · rfl
  · exact (hT.2 i (ho i rfl)).1

set_option maxHeartbeats 4000000 in
set_option maxRecDepth 100000 in
theorem st_testAt (l : Launch) (hT : l.stackTraces = false) (z : Nat) (D : va_G) (ac : Nat → ClassId) (sa : Nat → Nat) (P : pm_T) (h0 hm ao : Nat) (th : Int32) (p1 : Int32) (p2 : Int32) (hI : iv_I P ac h0 hm ao th) : ∃ (fs : List Value) (post : Option Value → pm_T → Prop) (xp : String → pm_T → Prop), P h0 = some (.inr (0, fs)) ∧ cx_V l yy_C_testAt bb_C_testAt 4 (some .int) ({ frames := 7, cells := 1, slots := 6, locals := 138 } : Room) z D ac sa P [.ref h0, .int p1, .int p2] post xp ∧ (∀ v P1, post v P1 → ∃ (r : Int32) (fo : Nat → Int64), v = some (.int r) ∧ P1 ao = some (iv_o ac fo) ∧ ∀ x : Nat → Int64, ∃ (vs : List Value) (mp : Option Value → pm_T → Prop), (pm_up P1 ao (iv_o ac x)) hm = some (.inr (6, vs)) ∧ cx_M l yy_M_testAt bb_M_testAt 3 (some .int) ({ frames := 3, cells := 0, slots := 0, locals := 90 } : Room) z D ac sa (pm_up P1 ao (iv_o ac x)) [.ref hm, .int p1, .int p2] mp ∧ ∀ w P3, mp w P3 → w = some (.int r) ∧ iv_I P3 ac h0 hm ao 0 ∧ P3 ao = some (iv_o ac x)) ∧ (∀ E P1, xp E P1 → ∃ cd : Int32, ((E = xn_IAE ∧ cd = 1)) ∧ ∃ (vs : List Value) (mp : Option Value → pm_T → Prop), P1 hm = some (.inr (6, vs)) ∧ cx_M l yy_M_testAt bb_M_testAt 3 (some .int) ({ frames := 3, cells := 0, slots := 0, locals := 90 } : Room) z D ac sa (P1) [.ref hm, .int p1, .int p2] mp ∧ ∀ w P3, mp w P3 → (∃ b, w = some (.int b)) ∧ iv_I P3 ac h0 hm ao cd) := by
  obtain ⟨ad, ma, n, t, al, so, fH, fT, hv, tv, ov, aw, ct, fw, lm, cn, lt, ks, kf, fC, fY, fB, mv, hq, tq, wn, fo0, hC, hW, hD, hO, hP⟩ := hI
  obtain ⟨g0, g1, g2, g3, g4, g6, g5, g7, g8, g9, gn, gy, gt⟩ := id hC
  obtain ⟨hPH, hPO, hPT, hPB, hPL⟩ := id hP
  have hn40 : n ≤ 40 := hPB.1.1
  have ht100 : t ≤ 100 := hPB.1.2
  refine ⟨_, _, _, g0, c_C_testAt l hT z D ac sa P h0 (ad 1) (ad 2) (ad 3) (ad 4) (ad 5) (nI n) (nI t) al fT tv p1 p2 gt g0 g2, ?_, ?_⟩
  · rintro v P1 ⟨⟨x0, x1, -⟩, eP, t9, hk, rfl⟩
    rcases iv_tk hPT ht100 p1 with ⟨j, hj, rfl, e9⟩ | ⟨-, e9⟩
    · skip
      rw [e9] at hk
      cases hk
      obtain ⟨-, t1, t2, t3, t4, t5⟩ := hPT.2 j hj
      have eP := eP.symm
      subst eP
      refine ⟨_, fo0, rfl, hO, fun x => ?_⟩
      have hC2 := hC.out hO (x := iv_o ac x)
      have hW2 := hW.up (x := iv_o ac x) (md_neo hW hO)
      have hO2 : pm_up P ao (iv_o ac x) ao = some (iv_o ac x) := pm_s
      refine ⟨_, _, hW2.1, c_M_testAtC l z D ac sa _ hm ma mv th al so n t hn40 ht100 j hj p2 (by rw [su_w4 x1]; decide) hW2, ?_⟩
      intro w P3 hp
      obtain ⟨e1, hw3, hF⟩ := hp
      refine ⟨?_, iv_fin hC2 hW2 hD hO2 hF hw3 hP⟩
      rw [e1]
      simp only [su_mta, su_ta, t1, t2, t3, t4, t5]
    · exact absurd e9 x0
  · rintro E P1 ⟨eP, hx⟩
    have eP := eP.symm
    subst eP
    rcases hx with ⟨x0, rfl⟩ | ⟨y0, (⟨x1, rfl⟩ | ⟨-, hx9⟩)⟩
    · skip
      rcases iv_tk hPT ht100 p1 with ⟨j, hj, rfl, e9⟩ | ⟨hA, e9⟩
      · exact absurd (by rw [e9]; exact fun h => nomatch h) x0
      · skip
        refine ⟨1, ⟨rfl, rfl⟩, _, _, hW.1, c_M_testAtA l z D ac sa P hm ma mv th al so n t hn40 ht100 p1 p2 hA hW, ?_⟩
        intro w P3 hp
        obtain ⟨e1, hw3, hF⟩ := hp
        exact ⟨⟨0, e1⟩, (iv_fin hC hW hD hO hF hw3 hP).1⟩
    · skip
      refine ⟨1, ⟨rfl, rfl⟩, _, _, hW.1, c_M_testAtB l z D ac sa P hm ma mv th al so n t hn40 ht100 p1 p2 (su_w4z x1) hW, ?_⟩
      intro w P3 hp
      obtain ⟨e1, hw3, hF⟩ := hp
      exact ⟨⟨0, e1⟩, (iv_fin hC hW hD hO hF hw3 hP).1⟩
    · exact hx9.elim

set_option maxHeartbeats 4000000 in
set_option maxRecDepth 100000 in
theorem st_hydrantAt (l : Launch) (hT : l.stackTraces = false) (z : Nat) (D : va_G) (ac : Nat → ClassId) (sa : Nat → Nat) (P : pm_T) (h0 hm ao : Nat) (th : Int32) (p1 : Int32) (p2 : Int32) (hI : iv_I P ac h0 hm ao th) : ∃ (fs : List Value) (post : Option Value → pm_T → Prop) (xp : String → pm_T → Prop), P h0 = some (.inr (0, fs)) ∧ cx_V l yy_C_hydrantAt bb_C_hydrantAt 4 (some .int) ({ frames := 7, cells := 2, slots := 12, locals := 138 } : Room) z D ac sa P [.ref h0, .int p1, .int p2] post xp ∧ (∀ v P1, post v P1 → ∃ (r : Int32) (fo : Nat → Int64), v = some (.int r) ∧ P1 ao = some (iv_o ac fo) ∧ ∀ x : Nat → Int64, ∃ (vs : List Value) (mp : Option Value → pm_T → Prop), (pm_up P1 ao (iv_o ac x)) hm = some (.inr (6, vs)) ∧ cx_M l yy_M_hydrantAt bb_M_hydrantAt 5 (some .int) ({ frames := 3, cells := 0, slots := 0, locals := 90 } : Room) z D ac sa (pm_up P1 ao (iv_o ac x)) [.ref hm, .int p1, .int p2] mp ∧ ∀ w P3, mp w P3 → w = some (.int r) ∧ iv_I P3 ac h0 hm ao 0 ∧ P3 ao = some (iv_o ac x)) ∧ (∀ E P1, xp E P1 → ∃ cd : Int32, ((E = xn_IAE ∧ cd = 1)) ∧ ∃ (vs : List Value) (mp : Option Value → pm_T → Prop), P1 hm = some (.inr (6, vs)) ∧ cx_M l yy_M_hydrantAt bb_M_hydrantAt 5 (some .int) ({ frames := 3, cells := 0, slots := 0, locals := 90 } : Room) z D ac sa (P1) [.ref hm, .int p1, .int p2] mp ∧ ∀ w P3, mp w P3 → (∃ b, w = some (.int b)) ∧ iv_I P3 ac h0 hm ao cd) := by
  obtain ⟨ad, ma, n, t, al, so, fH, fT, hv, tv, ov, aw, ct, fw, lm, cn, lt, ks, kf, fC, fY, fB, mv, hq, tq, wn, fo0, hC, hW, hD, hO, hP⟩ := hI
  obtain ⟨g0, g1, g2, g3, g4, g6, g5, g7, g8, g9, gn, gy, gt⟩ := id hC
  obtain ⟨hPH, hPO, hPT, hPB, hPL⟩ := id hP
  have hn40 : n ≤ 40 := hPB.1.1
  have ht100 : t ≤ 100 := hPB.1.2
  refine ⟨_, _, _, g0, c_C_hydrantAt l hT z D ac sa P h0 (ad 1) (ad 2) (ad 3) (ad 4) (ad 5) (nI n) (nI t) al fH hv tv ov aw ct fw p1 p2 gy g0 g1, ?_, ?_⟩
  · rintro v P1 ⟨⟨x0, x1, -⟩, eP, q9, hk, rfl⟩
    rcases iv_kn hPH hn40 p1 with ⟨j, hj, rfl, e9j⟩ | ⟨-, e9⟩
    rotate_left
    · exact absurd e9 (su_ne hk)
    rw [e9j] at hk
    cases hk
    obtain ⟨-, -, -, t3, t4, t6, t7, t8, t9, -⟩ := hPH.2.2 j hj
    have eP := eP.symm
    subst eP
    refine ⟨_, fo0, rfl, hO, fun x => ?_⟩
    have hC2 := hC.out hO (x := iv_o ac x)
    have hW2 := hW.up (x := iv_o ac x) (md_neo hW hO)
    have hO2 : pm_up P ao (iv_o ac x) ao = some (iv_o ac x) := pm_s
    refine ⟨_, _, hW2.1, c_M_hydrantAtC l z D ac sa _ hm ma mv th al so n t hn40 ht100 j hj p2 (by rw [su_w5 x1]; decide) hW2, ?_⟩
    intro w P3 hp
    obtain ⟨e1, hw3, hF⟩ := hp
    refine ⟨?_, iv_fin hC2 hW2 hD hO2 hF hw3 hP⟩
    rw [e1]
    simp only [su_mha, su_ha, t3, t4, t6, t7, t8, t9, su_cn_oi hPT (fun i h => su_cm_lt h)]
  · rintro E P1 ⟨eP, hx⟩
    have eP := eP.symm
    subst eP
    rcases hx with ⟨x0, rfl⟩ | ⟨y0, (⟨x1, rfl⟩ | ⟨-, hx9⟩)⟩
    · skip
      rcases iv_kn hPH hn40 p1 with ⟨j, hj, rfl, e9⟩ | ⟨hA, e9⟩
      · exact absurd (by rw [e9]; exact fun h => nomatch h) x0
      · skip
        refine ⟨1, ⟨rfl, rfl⟩, _, _, hW.1, c_M_hydrantAtA l z D ac sa P hm ma mv th al so n t hn40 ht100 p1 p2 hA hW, ?_⟩
        intro w P3 hp
        obtain ⟨e1, hw3, hF⟩ := hp
        exact ⟨⟨0, e1⟩, (iv_fin hC hW hD hO hF hw3 hP).1⟩
    · skip
      rcases iv_kn hPH hn40 p1 with ⟨j, hj, rfl, e9j⟩ | ⟨-, e9⟩
      rotate_left
      · exact absurd e9 y0
      refine ⟨1, ⟨rfl, rfl⟩, _, _, hW.1, c_M_hydrantAtB l z D ac sa P hm ma mv th al so n t hn40 ht100 j hj p2 (su_w5z x1) hW, ?_⟩
      intro w P3 hp
      obtain ⟨e1, hw3, hF⟩ := hp
      exact ⟨⟨0, e1⟩, (iv_fin hC hW hD hO hF hw3 hP).1⟩
    · exact hx9.elim

theorem day_n {p : Int32} (h : su_day p) : ∃ d, d ≤ 99999 ∧ p = nI d := su_in_ti (b := 99999) (by decide) (by rw [show (nI 99999) = (99999 : Int32) from rfl, in_1 h]; decide)

theorem su_us_01 {vd vk vr al d : Int32} {wf wt : Nat → Int32} {fw : Nat → Option Nat} : su_us vd vk vr al d wf wt fw = 0 ∨ su_us vd vk vr al d wf wt fw = 1 := by
  unfold su_us
  by_cases h1 : vd = 2
  · rw [if_pos h1]; exact .inl rfl
  rw [if_neg h1]
  by_cases h2 : vk = 1 ∧ al = 0
  · rw [if_pos h2]; exact .inl rfl
  rw [if_neg h2]
  by_cases h3 : su_dry vr d = 0
  · rw [if_pos h3]
    by_cases h4 : su_m3 wf wt d d fw = 0
    · rw [if_pos h4]; exact .inr rfl
    · rw [if_neg h4]; exact .inl rfl
  · rw [if_neg h3]; exact .inl rfl

set_option maxHeartbeats 4000000 in
set_option maxRecDepth 100000 in
theorem st_usable (l : Launch) (hT : l.stackTraces = false) (z : Nat) (D : va_G) (ac : Nat → ClassId) (sa : Nat → Nat) (P : pm_T) (h0 hm ao : Nat) (th : Int32) (p1 : Int32) (p2 : Int32) (hI : iv_I P ac h0 hm ao th) : ∃ (fs : List Value) (post : Option Value → pm_T → Prop) (xp : String → pm_T → Prop), P h0 = some (.inr (0, fs)) ∧ cx_V l yy_C_usable bb_C_usable 4 (some .boolean) ({ frames := 7, cells := 2, slots := 12, locals := 138 } : Room) z D ac sa P [.ref h0, .int p1, .int p2] post xp ∧ (∀ v P1, post v P1 → ∃ (r : Int32) (fo : Nat → Int64), v = some (.int r) ∧ (r = 0 ∨ r = 1) ∧ P1 ao = some (iv_o ac fo) ∧ ∀ x : Nat → Int64, ∃ (vs : List Value) (mp : Option Value → pm_T → Prop), (pm_up P1 ao (iv_o ac x)) hm = some (.inr (6, vs)) ∧ cx_M l yy_M_usable bb_M_usable 3 (some .boolean) ({ frames := 3, cells := 0, slots := 0, locals := 90 } : Room) z D ac sa (pm_up P1 ao (iv_o ac x)) [.ref hm, .int p1, .int p2] mp ∧ ∀ w P3, mp w P3 → w = some (.int r) ∧ iv_I P3 ac h0 hm ao 0 ∧ P3 ao = some (iv_o ac x)) ∧ (∀ E P1, xp E P1 → ∃ cd : Int32, ((E = xn_IAE ∧ cd = 1) ∨ (E = xn_IOB ∧ cd = 2)) ∧ ∃ (vs : List Value) (mp : Option Value → pm_T → Prop), P1 hm = some (.inr (6, vs)) ∧ cx_M l yy_M_usable bb_M_usable 3 (some .boolean) ({ frames := 3, cells := 0, slots := 0, locals := 90 } : Room) z D ac sa (P1) [.ref hm, .int p1, .int p2] mp ∧ ∀ w P3, mp w P3 → (∃ b, w = some (.int b)) ∧ iv_I P3 ac h0 hm ao cd) := by
  obtain ⟨ad, ma, n, t, al, so, fH, fT, hv, tv, ov, aw, ct, fw, lm, cn, lt, ks, kf, fC, fY, fB, mv, hq, tq, wn, fo0, hC, hW, hD, hO, hP⟩ := hI
  obtain ⟨g0, g1, g2, g3, g4, g6, g5, g7, g8, g9, gn, gy, gt⟩ := id hC
  obtain ⟨hPH, hPO, hPT, hPB, hPL⟩ := id hP
  have hn40 : n ≤ 40 := hPB.1.1
  have ht100 : t ≤ 100 := hPB.1.2
  refine ⟨_, _, _, g0, c_C_usable l hT z D ac sa P h0 (ad 1) (ad 2) (ad 3) (ad 4) (ad 5) (nI n) (nI t) al fH hv tv ov aw ct fw p1 p2 gy g0 g1, ?_, ?_⟩
  · rintro v P1 ⟨⟨x0, x1, -⟩, eP, q9, hk, rfl⟩
    rcases iv_kn hPH hn40 p1 with ⟨j, hj, rfl, e9j⟩ | ⟨-, e9⟩
    rotate_left
    · exact absurd e9 (su_ne hk)
    rw [e9j] at hk
    cases hk
    obtain ⟨d, hd, rfl⟩ := day_n x1
    obtain ⟨w3, w5, -⟩ := hPO j hj
    have eP := eP.symm
    subst eP
    refine ⟨_, fo0, rfl, su_us_01, hO, fun x => ?_⟩
    have hC2 := hC.out hO (x := iv_o ac x)
    have hW2 := hW.up (x := iv_o ac x) (md_neo hW hO)
    have hO2 : pm_up P ao (iv_o ac x) ao = some (iv_o ac x) := pm_s
    refine ⟨_, _, hW2.1, c_M_usableC l z D ac sa _ hm ma mv th al so n t hn40 ht100 j hj d hd (wn j) w3 w5 hW2, ?_⟩
    intro w P3 hp
    obtain ⟨e1, hw3, hF⟩ := hp
    refine ⟨?_, iv_fin hC2 hW2 hD hO2 hF hw3 hP⟩
    rw [e1]
    rw [iv_us hPH hPO hPB hj hd]
  · rintro E P1 ⟨eP, hx⟩
    have eP := eP.symm
    subst eP
    rcases hx with ⟨x0, rfl⟩ | ⟨y0, (⟨x1, rfl⟩ | ⟨-, hx9⟩)⟩
    · skip
      rcases iv_kn hPH hn40 p1 with ⟨j, hj, rfl, e9⟩ | ⟨hA, e9⟩
      · exact absurd (by rw [e9]; exact fun h => nomatch h) x0
      · skip
        refine ⟨1, .inl ⟨rfl, rfl⟩, _, _, hW.1, c_M_usableA l z D ac sa P hm ma mv th al so n t hn40 ht100 p1 p2 hA hW, ?_⟩
        intro w P3 hp
        obtain ⟨e1, hw3, hF⟩ := hp
        exact ⟨⟨0, e1⟩, (iv_fin hC hW hD hO hF hw3 hP).1⟩
    · skip
      rcases iv_kn hPH hn40 p1 with ⟨j, hj, rfl, e9j⟩ | ⟨-, e9⟩
      rotate_left
      · exact absurd e9 y0
      refine ⟨2, .inr (⟨rfl, rfl⟩), _, _, hW.1, c_M_usableB l z D ac sa P hm ma mv th al so n t hn40 ht100 j hj p2 (in_0 x1) hW, ?_⟩
      intro w P3 hp
      obtain ⟨e1, hw3, hF⟩ := hp
      exact ⟨⟨0, e1⟩, (iv_fin hC hW hD hO hF hw3 hP).1⟩
    · exact hx9.elim
