set_option maxHeartbeats 4000000 in
set_option maxRecDepth 100000 in
theorem st_season (l : Launch) (hT : l.stackTraces = false) (z : Nat) (D : va_G) (ac : Nat → ClassId) (sa : Nat → Nat) (P : pm_T) (h0 hm ao : Nat) (th : Int32) (p1 : Int32) (p2 : Int32) (p3 : Int32) (hp3 : p3 = 0 ∨ p3 = 1) (hI : iv_I P ac h0 hm ao th) : ∃ (fs : List Value) (post : Option Value → pm_T → Prop) (xp : String → pm_T → Prop), P h0 = some (.inr (0, fs)) ∧ cx_V l yy_C_season bb_C_season 5 none ({ frames := 7, cells := 3, slots := 18, locals := 138 } : Room) z D ac sa P [.ref h0, .int p1, .int p2, .int p3] post xp ∧ (∀ v P1, post v P1 → v = none ∧ ∃ (vs : List Value) (mp : Option Value → pm_T → Prop), P1 hm = some (.inr (6, vs)) ∧ cx_M l yy_M_season bb_M_season 4 none ({ frames := 3, cells := 0, slots := 0, locals := 90 } : Room) z D ac sa (P1) [.ref hm, .int p1, .int p2, .int p3] mp ∧ ∀ w P3, mp w P3 → w = none ∧ iv_I P3 ac h0 hm ao 0) ∧ (∀ E P1, xp E P1 → ∃ cd : Int32, ((E = xn_IAE ∧ cd = 1) ∨ (E = xn_IOB ∧ cd = 2) ∨ (E = xn_ISE ∧ cd = 3)) ∧ ∃ (vs : List Value) (mp : Option Value → pm_T → Prop), P1 hm = some (.inr (6, vs)) ∧ cx_M l yy_M_season bb_M_season 4 none ({ frames := 3, cells := 0, slots := 0, locals := 90 } : Room) z D ac sa (P1) [.ref hm, .int p1, .int p2, .int p3] mp ∧ ∀ w P3, mp w P3 → w = none ∧ iv_I P3 ac h0 hm ao cd) := by
  obtain ⟨ad, ma, n, t, al, so, fH, fT, hv, tv, ov, aw, ct, fw, lm, cn, lt, ks, kf, fC, fY, fB, mv, hq, tq, wn, fo0, hC, hW, hD, hO, hP⟩ := hI
  obtain ⟨g0, g1, g2, g3, g4, g6, g5, g7, g8, g9, gn, gy, gt⟩ := id hC
  obtain ⟨hPH, hPO, hPT, hPB, hPL⟩ := id hP
  have hn40 : n ≤ 40 := hPB.1.1
  have ht100 : t ≤ 100 := hPB.1.2
  refine ⟨_, _, _, g0, c_C_season l hT z D ac sa P h0 (ad 1) (ad 2) (ad 3) (ad 4) (ad 5) (nI n) (nI t) al fH hv tv ov aw ct fw p1 p2 p3 gy g0 g1, ?_, ?_⟩
  · rintro v P1 ⟨⟨x0, x1, x2, -⟩, rfl, q9, hk, eP⟩
    rcases iv_kn hPH hn40 p1 with ⟨j, hj, rfl, e9j⟩ | ⟨-, e9⟩
    rotate_left
    · exact absurd e9 (su_ne hk)
    rw [e9j] at hk
    cases hk
    obtain ⟨m9, hm9, rfl⟩ := su_in_ti (v := p2) (b := 11) (by decide) (by rw [show nI 11 = (11 : Int32) from rfl, in_1l (c := 12) (by decide) x1]; decide)
    have hk2 := su_ne2 (P := fun q => hv 4 q = 2) e9j x2
    have hk3 : mv 3 j = 2 := by rw [← (hPH.2.2 j hj).2.2.2.2.1]; exact hk2
    obtain ⟨hv1, ehv⟩ : ∃ hv1 : Nat → Nat → Int32, hv1 = va_up hv 8 (upd (hv 8) (hq j) (su_set (hv 8 (hq j)) (nI m9) p3)) := ⟨_, rfl⟩
    have hag : ∀ i a, a ≠ hq j → hv1 i a = hv i a := fun i a ha => by rw [ehv]; simp only [va_up]; by_cases h1 : i = 8 <;> simp only [h1, if_true, if_false, upd_n ha]
    have h70 : hv1 0 (hq j) = hv 0 (hq j) := by rw [ehv]; rfl
    have h71 : hv1 1 (hq j) = hv 1 (hq j) := by rw [ehv]; rfl
    have h72 : hv1 2 (hq j) = hv 2 (hq j) := by rw [ehv]; rfl
    have h73 : hv1 3 (hq j) = hv 3 (hq j) := by rw [ehv]; rfl
    have h74 : hv1 4 (hq j) = hv 4 (hq j) := by rw [ehv]; rfl
    have h76 : hv1 6 (hq j) = hv 6 (hq j) := by rw [ehv]; rfl
    have h77 : hv1 7 (hq j) = hv 7 (hq j) := by rw [ehv]; rfl
    have h78 : hv1 8 (hq j) = su_set (hv 8 (hq j)) (nI m9) p3 := by rw [ehv]; exact upd_s
    have h79 : hv1 9 (hq j) = hv 9 (hq j) := by rw [ehv]; rfl
    have eP : P1 = pm_up P (hq j) (iv_h hv1 aw ct (hq j)) := by rw [eP]; simp only [iv_h, h70, h71, h72, h73, h74, h76, h77, h78, h79]
    subst eP
    have hqj := hq_at hPH hj
    have gq := (gy j (hq j) hqj).1
    have hC1 := hC.hyd hqj hag
    have hW1 := hW.up (x := iv_h hv1 aw ct (hq j)) (md_ne hW gq rfl)
    have hO1 : pm_up P (hq j) (iv_h hv1 aw ct (hq j)) ao = some (iv_o ac fo0) := by rw [pm_n (pm_ne hO gq (by simp))]; exact hO
    refine ⟨rfl, _, _, hW1.1, c_M_seasonC l z D ac sa _ hm ma mv th al so n t hn40 ht100 j hj m9 hm9 p3 hp3 hW1, ?_⟩
    intro w P3 hp
    obtain ⟨hp1, -, hF⟩ := hp
    have hG : (su_gs 1 1 (su_eq (mv 3 j) 2) 1) = 0 := by rw [su_eq, if_pos hk3]; decide
    obtain ⟨e1, hw3⟩ := hp1 hG
    rw [hG] at hw3
    refine ⟨e1, (iv_fin hC1 hW1 hD hO1 hF hw3 (hq := hq) (tq := tq) (wn := wn) ?_).1⟩
    refine ⟨⟨hPH.1, hPH.2.1, fun k hk => ?_⟩, hPO, hPT, ?_, hPL⟩
    · obtain ⟨t0, t1, t2, t3, t4, t6, t7, t8, t9, ta⟩ := hPH.2.2 k hk
      rw [ehv]
      refine ⟨t0, t1, t2, t3, t4, t6, t7, t8, t9, fun m hm => ?_⟩
      show su_bit (upd (hv 8) (hq j) (su_set (hv 8 (hq j)) (nI m9) p3) (hq k)) (nI m) = upd (mv 8) (12 * j + m9) p3 (12 * k + m)
      by_cases hkj : k = j
      · subst hkj
        rw [upd_s, su_set_bit (by omega) hm hp3]
        by_cases hmm : m = m9
        · rw [if_pos hmm, hmm, upd_s]
        · rw [if_neg hmm, upd_n (by omega)]; exact ta m hm
      · rw [upd_n (fun h => hkj (hq_inj hPH hn40 hk hj h)), upd_n (by omega)]; exact ta m hm
    · obtain ⟨b1, b2, b3, b4, b5, b6, b7, b8⟩ := hPB
      refine ⟨b1, b2, b3, fun k hk => ?_, b5, b6, b7, fun k h1 h2 => ?_⟩
      · obtain ⟨c1, c2, c3⟩ := b4 k hk
        refine ⟨c1, c2, fun hk2 m hm => ?_⟩
        show upd (mv 8) (12 * j + m9) p3 (12 * k + m) = 0
        by_cases hkj : k = j
        · subst hkj; exact absurd hk3 hk2
        · rw [upd_n (by omega)]; exact c3 hk2 m hm
      · obtain ⟨c1, c2, c3⟩ := b8 k h1 h2
        refine ⟨c1, c2, fun m hm => ?_⟩
        show upd (mv 8) (12 * j + m9) p3 (12 * k + m) = 0
        rw [upd_n (by omega)]; exact c3 m hm
  · rintro E P1 ⟨eP, hx⟩
    have eP := eP.symm
    subst eP
    rcases hx with ⟨x0, rfl⟩ | ⟨y0, (⟨x1, rfl⟩ | ⟨y1, (⟨x2, rfl⟩ | ⟨-, hx9⟩)⟩)⟩
    · skip
      rcases iv_kn hPH hn40 p1 with ⟨j, hj, rfl, e9⟩ | ⟨hA, e9⟩
      · exact absurd (by rw [e9]; exact fun h => nomatch h) x0
      · skip
        refine ⟨1, .inl ⟨rfl, rfl⟩, _, _, hW.1, c_M_seasonA l z D ac sa P hm ma mv th al so n t hn40 ht100 p1 p2 p3 hA hW, ?_⟩
        intro w P3 hp
        obtain ⟨e1, hw3, hF⟩ := hp
        exact ⟨e1, (iv_fin hC hW hD hO hF hw3 hP).1⟩
    · skip
      rcases iv_kn hPH hn40 p1 with ⟨j, hj, rfl, e9j⟩ | ⟨-, e9⟩
      rotate_left
      · exact absurd e9 y0
      refine ⟨2, .inr (.inl ⟨rfl, rfl⟩), _, _, hW.1, c_M_seasonB l z D ac sa P hm ma mv th al so n t hn40 ht100 j hj p2 p3 (in_0l (c := 12) (by decide) x1) hW, ?_⟩
      intro w P3 hp
      obtain ⟨e1, hw3, hF⟩ := hp
      exact ⟨e1, (iv_fin hC hW hD hO hF hw3 hP).1⟩
    · skip
      rcases iv_kn hPH hn40 p1 with ⟨j, hj, rfl, e9j⟩ | ⟨-, e9⟩
      rotate_left
      · exact absurd e9 y0
      obtain ⟨m9, hm9, rfl⟩ := su_in_ti (v := p2) (b := 11) (by decide) (by rw [show nI 11 = (11 : Int32) from rfl, in_1l (c := 12) (by decide) y1]; decide)
      have hk3 : ¬ mv 3 j = 2 := by rw [← (hPH.2.2 j hj).2.2.2.2.1]; exact su_nx2 (P := fun q => hv 4 q = 2) e9j x2
      refine ⟨3, .inr (.inr (⟨rfl, rfl⟩)), _, _, hW.1, c_M_seasonC l z D ac sa P hm ma mv th al so n t hn40 ht100 j hj m9 hm9 p3 hp3 hW, ?_⟩
      intro w P3 hp
      obtain ⟨-, hp2, hF⟩ := hp
      have hG : (su_gs 1 1 (su_eq (mv 3 j) 2) 1) = 3 := by rw [su_eq, if_neg hk3]; decide
      obtain ⟨e1, hw3⟩ := hp2 (by rw [hG]; decide)
      rw [hG] at hw3
      exact ⟨e1, (iv_fin hC hW hD hO hF hw3 hP).1⟩
    · exact hx9.elim

set_option maxHeartbeats 4000000 in
set_option maxRecDepth 100000 in
theorem st_both (l : Launch) (hT : l.stackTraces = false) (z : Nat) (D : va_G) (ac : Nat → ClassId) (sa : Nat → Nat) (P : pm_T) (h0 hm ao : Nat) (th : Int32) (p1 : Int32) (p2 : Int32) (p3 : Int32) (hI : iv_I P ac h0 hm ao th) : ∃ (fs : List Value) (post : Option Value → pm_T → Prop) (xp : String → pm_T → Prop), P h0 = some (.inr (0, fs)) ∧ cx_V l yy_C_both bb_C_both 9 (some .int) ({ frames := 7, cells := 8, slots := 48, locals := 138 } : Room) z D ac sa P [.ref h0, .int p1, .int p2, .int p3] post xp ∧ (∀ v P1, post v P1 → ∃ (r : Int32) (fo : Nat → Int64), v = some (.int r) ∧ P1 ao = some (iv_o ac fo) ∧ ∀ x : Nat → Int64, ∃ (vs : List Value) (mp : Option Value → pm_T → Prop), (pm_up P1 ao (iv_o ac x)) hm = some (.inr (6, vs)) ∧ cx_M l yy_M_both bb_M_both 8 (some .int) ({ frames := 4, cells := 0, slots := 0, locals := 120 } : Room) z D ac sa (pm_up P1 ao (iv_o ac x)) [.ref hm, .int p1, .int p2, .int p3] mp ∧ ∀ w P3, mp w P3 → w = some (.int r) ∧ iv_I P3 ac h0 hm ao 0 ∧ P3 ao = some (iv_o ac x)) ∧ (∀ E P1, xp E P1 → ∃ cd : Int32, ((E = xn_IAE ∧ cd = 1) ∨ (E = xn_IOB ∧ cd = 2) ∨ (E = xn_ISE ∧ cd = 3) ∨ (E = xn_ARE ∧ cd = 4)) ∧ ∃ (vs : List Value) (mp : Option Value → pm_T → Prop), P1 hm = some (.inr (6, vs)) ∧ cx_M l yy_M_both bb_M_both 8 (some .int) ({ frames := 4, cells := 0, slots := 0, locals := 120 } : Room) z D ac sa (P1) [.ref hm, .int p1, .int p2, .int p3] mp ∧ ∀ w P3, mp w P3 → (∃ b, w = some (.int b)) ∧ iv_I P3 ac h0 hm ao cd) := by
  obtain ⟨ad, ma, n, t, al, so, fH, fT, hv, tv, ov, aw, ct, fw, lm, cn, lt, ks, kf, fC, fY, fB, mv, hq, tq, wn, fo0, hC, hW, hD, hO, hP⟩ := hI
  obtain ⟨g0, g1, g2, g3, g4, g6, g5, g7, g8, g9, gn, gy, gt⟩ := id hC
  obtain ⟨hPH, hPO, hPT, hPB, hPL⟩ := id hP
  have hn40 : n ≤ 40 := hPB.1.1
  have ht100 : t ≤ 100 := hPB.1.2
  refine ⟨_, _, _, g0, c_C_both l hT z D ac sa P h0 (ad 1) (ad 2) (ad 3) (ad 4) (ad 5) (nI n) (nI t) al fH hv tv ov aw ct fw lm p1 p2 p3 gy g0 g1 g3, ?_, ?_⟩
  · rintro v P1 ⟨⟨x0, x1, x2, x3, x4, x5, x6, x7, -⟩, eP, q9, r9, t5, u5, hk, hk2, hc9, hc8, rfl⟩
    rcases iv_kn hPH hn40 p1 with ⟨j, hj, rfl, e9j⟩ | ⟨-, e9⟩
    rotate_left
    · exact absurd e9 (su_ne hk)
    rw [e9j] at hk
    cases hk
    rcases iv_kn hPH hn40 p2 with ⟨j2, hj2, rfl, e9j2⟩ | ⟨-, e9⟩
    rotate_left
    · exact absurd e9 (su_ne hk2)
    rw [e9j2] at hk2
    cases hk2
    have t9 := (hPH.2.2 j hj).2.2.2.2.2.2.2.2.1
    have t8 := (hPH.2.2 j2 hj2).2.2.2.2.2.2.2.2.1
    have hjj : ¬ j = j2 := fun h => x2 (by rw [h])
    rcases hq9 : su_cm (mv 10) (mv 11) (nI j) t with _ | i9
    · rw [ct_none t9 hq9] at hc9; cases hc9
    rcases hq8 : su_cm (mv 10) (mv 11) (nI j2) t with _ | i8
    · rw [ct_none t8 hq8] at hc8; cases hc8
    rw [ct_some t9 hq9] at hc9
    cases hc9
    rw [ct_some t8 hq8] at hc8
    cases hc8
    have hi := su_cm_lt hq9
    obtain ⟨-, -, -, u3, u4, u5⟩ := hPT.2 i9 hi
    have hi2 := su_cm_lt hq8
    obtain ⟨-, -, -, w3, w4, w5⟩ := hPT.2 i8 hi2
    have hct : ¬ su_mct mv i9 p3 = 0 := (iv_num hPB hi x3.1).2.1.mp (by have := su_ne2 e9j x6 _ (ct_some t9 hq9); rw [u3, u5] at this; exact this)
    have hct2 : ¬ su_mct mv i8 p3 = 0 := (iv_num hPB hi2 x3.1).2.1.mp (by have := su_ne2 e9j2 x7 _ (ct_some t8 hq8); rw [w3, w5] at this; exact this)
    obtain ⟨m9, hm9, hmj⟩ := (hPB.2.2.2.1 j hj).2.1
    have eP := eP.symm
    subst eP
    refine ⟨_, fo0, rfl, hO, fun x => ?_⟩
    have hC2 := hC.out hO (x := iv_o ac x)
    have hW2 := hW.up (x := iv_o ac x) (md_neo hW hO)
    have hO2 : pm_up P ao (iv_o ac x) ao = some (iv_o ac x) := pm_s
    refine ⟨_, _, hW2.1, c_M_bothC l z D ac sa _ hm ma mv th al so n t hn40 ht100 j hj j2 hj2 hjj i9 i8 m9 hm9 hmj p3 hq9 hq8 hW2, ?_⟩
    intro w P3 hp
    obtain ⟨hp1, -, hF⟩ := hp
    have hG : (su_gs 1 (su_in p3 0 2000) 1 (su_an8 (su_mct mv i9 p3) (su_mct mv i8 p3))) = 0 := by rw [in_1 x3, su_an8, if_neg hct, if_neg hct2]; decide
    obtain ⟨e1, hw3⟩ := hp1 hG
    rw [hG] at hw3
    refine ⟨?_, iv_fin hC2 hW2 hD hO2 hF hw3 hP⟩
    rw [e1]
    have a3 := (hPH.2.2 j hj).2.2.2.1
    have b3 := (hPH.2.2 j2 hj2).2.2.2.1
    rw [u3, u4, u5, w3, w4, w5, a3, b3, iv_bo hm9 hmj (hPL.1 m9 hm9), iv_wh hPB hi x3.1 hct, iv_wh hPB hi2 x3.1 hct2]
  · rintro E P1 ⟨eP, hx⟩
    have eP := eP.symm
    subst eP
    rcases hx with ⟨x0, rfl⟩ | ⟨y0, (⟨x1, rfl⟩ | ⟨y1, (⟨x2, rfl⟩ | ⟨y2, (⟨x3, rfl⟩ | ⟨y3, (⟨x4, rfl⟩ | ⟨y4, (⟨x5, rfl⟩ | ⟨y5, (⟨x6, rfl⟩ | ⟨y6, (⟨x7, rfl⟩ | ⟨-, hx9⟩)⟩)⟩)⟩)⟩)⟩)⟩)⟩
    · skip
      rcases iv_kn hPH hn40 p1 with ⟨j, hj, rfl, e9⟩ | ⟨hA, e9⟩
      · exact absurd (by rw [e9]; exact fun h => nomatch h) x0
      · skip
        refine ⟨1, .inl ⟨rfl, rfl⟩, _, _, hW.1, c_M_bothA l z D ac sa P hm ma mv th al so n t hn40 ht100 p1 p2 p3 hA hW, ?_⟩
        intro w P3 hp
        obtain ⟨e1, hw3, hF⟩ := hp
        exact ⟨⟨0, e1⟩, (iv_fin hC hW hD hO hF hw3 hP).1⟩
    · skip
      rcases iv_kn hPH hn40 p1 with ⟨j, hj, rfl, e9j⟩ | ⟨-, e9⟩
      rotate_left
      · exact absurd e9 y0
      rcases iv_kn hPH hn40 p2 with ⟨j2, hj2, rfl, e8⟩ | ⟨hA, e8⟩
      · exact absurd (by rw [e8]; exact fun h => nomatch h) x1
      · skip
        refine ⟨1, .inl ⟨rfl, rfl⟩, _, _, hW.1, c_M_bothB l z D ac sa P hm ma mv th al so n t hn40 ht100 j hj p2 p3 hA hW, ?_⟩
        intro w P3 hp
        obtain ⟨e1, hw3, hF⟩ := hp
        exact ⟨⟨0, e1⟩, (iv_fin hC hW hD hO hF hw3 hP).1⟩
    · skip
      rcases iv_kn hPH hn40 p1 with ⟨j, hj, rfl, e9j⟩ | ⟨-, e9⟩
      rotate_left
      · exact absurd e9 y0
      rcases iv_kn hPH hn40 p2 with ⟨j2, hj2, rfl, e9j2⟩ | ⟨-, e9⟩
      rotate_left
      · exact absurd e9 y1
      have t9 := (hPH.2.2 j hj).2.2.2.2.2.2.2.2.1
      have t8 := (hPH.2.2 j2 hj2).2.2.2.2.2.2.2.2.1
      have ej : j = j2 := (nI_eq (by omega) (by omega)).mp (Classical.byContradiction x2)
      subst ej
      refine ⟨1, .inl ⟨rfl, rfl⟩, _, _, hW.1, c_M_bothE l z D ac sa P hm ma mv th al so n t hn40 ht100 j hj p3 hW, ?_⟩
      intro w P3 hp
      obtain ⟨e1, hw3, hF⟩ := hp
      exact ⟨⟨0, e1⟩, (iv_fin hC hW hD hO hF hw3 hP).1⟩
    · skip
      rcases iv_kn hPH hn40 p1 with ⟨j, hj, rfl, e9j⟩ | ⟨-, e9⟩
      rotate_left
      · exact absurd e9 y0
      rcases iv_kn hPH hn40 p2 with ⟨j2, hj2, rfl, e9j2⟩ | ⟨-, e9⟩
      rotate_left
      · exact absurd e9 y1
      have t9 := (hPH.2.2 j hj).2.2.2.2.2.2.2.2.1
      have t8 := (hPH.2.2 j2 hj2).2.2.2.2.2.2.2.2.1
      have hjj : ¬ j = j2 := fun h => y2 (by rw [h])
      rcases hq9 : su_cm (mv 10) (mv 11) (nI j) t with _ | i9
      · skip
        refine ⟨2, .inr (.inl ⟨rfl, rfl⟩), _, _, hW.1, c_M_bothF l z D ac sa P hm ma mv th al so n t hn40 ht100 j hj j2 hj2 hjj p3 hq9 hW, ?_⟩
        intro w P3 hp
        obtain ⟨e1, hw3, hF⟩ := hp
        rw [show (su_gs 1 (su_in p3 0 2000) 0 0) = 2 from by rw [in_0 x3]; simp [su_gs]] at hw3
        exact ⟨⟨0, e1⟩, (iv_fin hC hW hD hO hF hw3 hP).1⟩
      rcases hq8 : su_cm (mv 10) (mv 11) (nI j2) t with _ | i8
      · skip
        refine ⟨2, .inr (.inl ⟨rfl, rfl⟩), _, _, hW.1, c_M_bothG l z D ac sa P hm ma mv th al so n t hn40 ht100 j hj j2 hj2 hjj i9 p3 hq9 hq8 hW, ?_⟩
        intro w P3 hp
        obtain ⟨e1, hw3, hF⟩ := hp
        rw [show (su_gs 1 (su_in p3 0 2000) 0 0) = 2 from by rw [in_0 x3]; simp [su_gs]] at hw3
        exact ⟨⟨0, e1⟩, (iv_fin hC hW hD hO hF hw3 hP).1⟩
      · skip
        obtain ⟨m9, hm9, hmj⟩ := (hPB.2.2.2.1 j hj).2.1
        refine ⟨2, .inr (.inl ⟨rfl, rfl⟩), _, _, hW.1, c_M_bothC l z D ac sa P hm ma mv th al so n t hn40 ht100 j hj j2 hj2 hjj i9 i8 m9 hm9 hmj p3 hq9 hq8 hW, ?_⟩
        intro w P3 hp
        obtain ⟨-, hp2, hF⟩ := hp
        have hG : (su_gs 1 (su_in p3 0 2000) 1 (su_an8 (su_mct mv i9 p3) (su_mct mv i8 p3))) = 2 := by rw [in_0 x3]; simp [su_gs]
        obtain ⟨e1, hw3⟩ := hp2 (by rw [hG]; decide)
        rw [hG] at hw3
        exact ⟨⟨0, e1⟩, (iv_fin hC hW hD hO hF hw3 hP).1⟩
    · skip
      rcases iv_kn hPH hn40 p1 with ⟨j, hj, rfl, e9j⟩ | ⟨-, e9⟩
      rotate_left
      · exact absurd e9 y0
      rcases iv_kn hPH hn40 p2 with ⟨j2, hj2, rfl, e9j2⟩ | ⟨-, e9⟩
      rotate_left
      · exact absurd e9 y1
      have t9 := (hPH.2.2 j hj).2.2.2.2.2.2.2.2.1
      have t8 := (hPH.2.2 j2 hj2).2.2.2.2.2.2.2.2.1
      have hjj : ¬ j = j2 := fun h => y2 (by rw [h])
      rcases hq9 : su_cm (mv 10) (mv 11) (nI j) t with _ | i9
      · skip
        refine ⟨3, .inr (.inr (.inl ⟨rfl, rfl⟩)), _, _, hW.1, c_M_bothF l z D ac sa P hm ma mv th al so n t hn40 ht100 j hj j2 hj2 hjj p3 hq9 hW, ?_⟩
        intro w P3 hp
        obtain ⟨e1, hw3, hF⟩ := hp
        rw [show (su_gs 1 (su_in p3 0 2000) 0 0) = 3 from by rw [in_1 y3]; decide] at hw3
        exact ⟨⟨0, e1⟩, (iv_fin hC hW hD hO hF hw3 hP).1⟩
      · exact absurd (su_ne (ct_some t9 hq9)) (su_nx2 (P := fun r => ¬ ct r = none) e9j x4)
    · skip
      rcases iv_kn hPH hn40 p1 with ⟨j, hj, rfl, e9j⟩ | ⟨-, e9⟩
      rotate_left
      · exact absurd e9 y0
      rcases iv_kn hPH hn40 p2 with ⟨j2, hj2, rfl, e9j2⟩ | ⟨-, e9⟩
      rotate_left
      · exact absurd e9 y1
      have t9 := (hPH.2.2 j hj).2.2.2.2.2.2.2.2.1
      have t8 := (hPH.2.2 j2 hj2).2.2.2.2.2.2.2.2.1
      have hjj : ¬ j = j2 := fun h => y2 (by rw [h])
      rcases hq9 : su_cm (mv 10) (mv 11) (nI j) t with _ | i9
      · exact absurd (ct_none t9 hq9) (su_ne2 (P := fun r => ¬ ct r = none) e9j y4)
      rcases hq8 : su_cm (mv 10) (mv 11) (nI j2) t with _ | i8
      · skip
        refine ⟨3, .inr (.inr (.inl ⟨rfl, rfl⟩)), _, _, hW.1, c_M_bothG l z D ac sa P hm ma mv th al so n t hn40 ht100 j hj j2 hj2 hjj i9 p3 hq9 hq8 hW, ?_⟩
        intro w P3 hp
        obtain ⟨e1, hw3, hF⟩ := hp
        rw [show (su_gs 1 (su_in p3 0 2000) 0 0) = 3 from by rw [in_1 y3]; decide] at hw3
        exact ⟨⟨0, e1⟩, (iv_fin hC hW hD hO hF hw3 hP).1⟩
      · exact absurd (su_ne (ct_some t8 hq8)) (su_nx2 (P := fun r => ¬ ct r = none) e9j2 x5)
    · skip
      rcases iv_kn hPH hn40 p1 with ⟨j, hj, rfl, e9j⟩ | ⟨-, e9⟩
      rotate_left
      · exact absurd e9 y0
      rcases iv_kn hPH hn40 p2 with ⟨j2, hj2, rfl, e9j2⟩ | ⟨-, e9⟩
      rotate_left
      · exact absurd e9 y1
      have t9 := (hPH.2.2 j hj).2.2.2.2.2.2.2.2.1
      have t8 := (hPH.2.2 j2 hj2).2.2.2.2.2.2.2.2.1
      have hjj : ¬ j = j2 := fun h => y2 (by rw [h])
      rcases hq9 : su_cm (mv 10) (mv 11) (nI j) t with _ | i9
      · exact absurd (ct_none t9 hq9) (su_ne2 (P := fun r => ¬ ct r = none) e9j y4)
      rcases hq8 : su_cm (mv 10) (mv 11) (nI j2) t with _ | i8
      · exact absurd (ct_none t8 hq8) (su_ne2 (P := fun r => ¬ ct r = none) e9j2 y5)
      · skip
        have hi := su_cm_lt hq9
        obtain ⟨-, -, -, u3, u4, u5⟩ := hPT.2 i9 hi
        have hct : su_mct mv i9 p3 = 0 := Classical.byContradiction (fun h => su_nx2 e9j x6 (fun t7 ht7 => by rw [ct_some t9 hq9] at ht7; cases ht7; rw [u3, u5]; exact (iv_num hPB hi y3.1).2.1.mpr h))
        obtain ⟨m9, hm9, hmj⟩ := (hPB.2.2.2.1 j hj).2.1
        refine ⟨4, .inr (.inr (.inr (⟨rfl, rfl⟩))), _, _, hW.1, c_M_bothC l z D ac sa P hm ma mv th al so n t hn40 ht100 j hj j2 hj2 hjj i9 i8 m9 hm9 hmj p3 hq9 hq8 hW, ?_⟩
        intro w P3 hp
        obtain ⟨-, hp2, hF⟩ := hp
        have hG : (su_gs 1 (su_in p3 0 2000) 1 (su_an8 (su_mct mv i9 p3) (su_mct mv i8 p3))) = 4 := by rw [in_1 y3, hct, su_an8, if_pos rfl]; decide
        obtain ⟨e1, hw3⟩ := hp2 (by rw [hG]; decide)
        rw [hG] at hw3
        exact ⟨⟨0, e1⟩, (iv_fin hC hW hD hO hF hw3 hP).1⟩
    · skip
      rcases iv_kn hPH hn40 p1 with ⟨j, hj, rfl, e9j⟩ | ⟨-, e9⟩
      rotate_left
      · exact absurd e9 y0
      rcases iv_kn hPH hn40 p2 with ⟨j2, hj2, rfl, e9j2⟩ | ⟨-, e9⟩
      rotate_left
      · exact absurd e9 y1
      have t9 := (hPH.2.2 j hj).2.2.2.2.2.2.2.2.1
      have t8 := (hPH.2.2 j2 hj2).2.2.2.2.2.2.2.2.1
      have hjj : ¬ j = j2 := fun h => y2 (by rw [h])
      rcases hq9 : su_cm (mv 10) (mv 11) (nI j) t with _ | i9
      · exact absurd (ct_none t9 hq9) (su_ne2 (P := fun r => ¬ ct r = none) e9j y4)
      rcases hq8 : su_cm (mv 10) (mv 11) (nI j2) t with _ | i8
      · exact absurd (ct_none t8 hq8) (su_ne2 (P := fun r => ¬ ct r = none) e9j2 y5)
      · skip
        have hi := su_cm_lt hq8
        obtain ⟨-, -, -, u3, u4, u5⟩ := hPT.2 i8 hi
        have hct : su_mct mv i8 p3 = 0 := Classical.byContradiction (fun h => su_nx2 e9j2 x7 (fun t7 ht7 => by rw [ct_some t8 hq8] at ht7; cases ht7; rw [u3, u5]; exact (iv_num hPB hi y3.1).2.1.mpr h))
        obtain ⟨m9, hm9, hmj⟩ := (hPB.2.2.2.1 j hj).2.1
        refine ⟨4, .inr (.inr (.inr (⟨rfl, rfl⟩))), _, _, hW.1, c_M_bothC l z D ac sa P hm ma mv th al so n t hn40 ht100 j hj j2 hj2 hjj i9 i8 m9 hm9 hmj p3 hq9 hq8 hW, ?_⟩
        intro w P3 hp
        obtain ⟨-, hp2, hF⟩ := hp
        have hG : (su_gs 1 (su_in p3 0 2000) 1 (su_an8 (su_mct mv i9 p3) (su_mct mv i8 p3))) = 4 := by rw [in_1 y3, hct, show su_an8 (su_mct mv i9 p3) 0 = 0 from by unfold su_an8; by_cases h7 : su_mct mv i9 p3 = 0 <;> simp [h7]]; decide
        obtain ⟨e1, hw3⟩ := hp2 (by rw [hG]; decide)
        rw [hG] at hw3
        exact ⟨⟨0, e1⟩, (iv_fin hC hW hD hO hF hw3 hP).1⟩
    · exact hx9.elim

theorem su_sm_0 {fH : Nat → Option Nat} {ok : Nat → Bool} {gv : Nat → Int32} {n : Nat} : ∀ d, (∀ k, n ≤ k → fH k = none) → su_sm fH ok gv (n + d) = su_sm fH ok gv n
  | 0, _ => rfl
  | d + 1, h => by
    show (match fH (n + d) with | none => su_sm fH ok gv (n + d) | some q => if ok q = true then su_sm fH ok gv (n + d) + gv q else su_sm fH ok gv (n + d)) = _
    rw [h (n + d) (by omega)]
    exact su_sm_0 d h
theorem iv_sm {n t : Nat} {al so : Int32} {fH fT : Nat → Option Nat} {hv tv ov : Nat → Nat → Int32} {aw : Nat → Nat} {ct : Nat → Option Nat} {fw : Nat → Nat → Option Nat} {mv : Nat → Nat → Int32} {hq tq wn : Nat → Nat} (hH : iv_H n t fH hv aw ct mv hq tq) (hO : iv_O n ov fw mv hq wn) (hT : iv_T t fT tv mv tq) (hB : iv_B n t al so mv) {a b p len : Int32} {d m : Nat} (hpl : su_pm a b = 1) (hd : d ≤ 99999) (hp : ¬ p < 0) : ∀ k, k ≤ n → su_sm fH (su_ok hv ov fw al (nI m) a b (nI d) len) (fun q => su_gv (tv 3) (tv 4) (tv 5) (ct q) p) k = su_msm mv (fun j => su_mus mv al j d (wn j)) t a b p len m k
  | 0, _ => rfl
  | k + 1, hk => by
    have ih := iv_sm hH hO hT hB (p := p) (len := len) (m := m) hpl hd hp k (by omega)
    have hkn : k < n := by omega
    obtain ⟨-, e1, e2, e3, -, -, -, -, e9, -⟩ := hH.2.2 k hkn
    have hu := iv_us hH hO hB hkn hd
    have hh := (su_hose_m hB hkn hpl).2.1
    simp only [su_sm, su_msm, hq_at hH hkn, ih]
    unfold su_ok
    rw [e1, e2, e3, hu, hh]
    by_cases h1 : mv 2 k = nI m
    · rw [if_pos h1, decide_eq_true h1]
      by_cases h2 : su_mus mv al k d (wn k) = 0
      · rw [if_pos h2, decide_eq_true h2]; simp
      · rw [if_neg h2, decide_eq_false h2]
        by_cases h3 : len < su_mh mv a b k
        · rw [if_pos h3, decide_eq_true h3]; simp
        · rw [if_neg h3, decide_eq_false h3]
          simp only [Bool.not_false, Bool.and_self, if_true, e9]
          rcases hq9 : su_cm (mv 10) (mv 11) (nI k) t with _ | i
          · simp only [Option.map, su_gv]
            exact Int32.add_zero _
          · have hi := su_cm_lt hq9
            obtain ⟨-, -, -, u3, u4, u5⟩ := hT.2 i hi
            simp only [Option.map, su_gv, u3, u4, u5]
            by_cases h4 : su_mct mv i p = 0
            · rw [if_pos h4]
              have h5 : su_lo (mv 12 i) (mv 14 i) p ≤ 0 := Classical.byContradiction (fun h => (iv_num hB hi hp).2.1.mp h h4)
              rw [su_wh, if_pos h5]
              exact Int32.add_zero _
            · rw [if_neg h4, iv_wh hB hi hp h4]
    · rw [if_neg h1, decide_eq_false h1]; simp
theorem iv_all {n t : Nat} {al so : Int32} {fH fT : Nat → Option Nat} {hv tv ov : Nat → Nat → Int32} {aw : Nat → Nat} {ct : Nat → Option Nat} {fw : Nat → Nat → Option Nat} {mv : Nat → Nat → Int32} {hq tq wn : Nat → Nat} {lm : Nat → Int32} (hH : iv_H n t fH hv aw ct mv hq tq) (hO : iv_O n ov fw mv hq wn) (hT : iv_T t fT tv mv tq) (hB : iv_B n t al so mv) (hL : ∀ m, m < 20 → lm m = mv 9 m) {a b p len : Int32} {d : Nat} (hpl : su_pm a b = 1) (hd : d ≤ 99999) (hp : ¬ p < 0) : ∀ m, m ≤ 20 → su_all lm (fun k => su_sm fH (su_ok hv ov fw al (nI k) a b (nI d) len) (fun q => su_gv (tv 3) (tv 4) (tv 5) (ct q) p) 40) m = su_mal mv (fun j => su_mus mv al j d (wn j)) n t a b p len m
  | 0, _ => rfl
  | m + 1, hm => by
    have ih := iv_all hH hO hT hB hL (p := p) (len := len) hpl hd hp m (by omega)
    have h40 : su_sm fH (su_ok hv ov fw al (nI m) a b (nI d) len) (fun q => su_gv (tv 3) (tv 4) (tv 5) (ct q) p) 40 = su_msm mv (fun j => su_mus mv al j d (wn j)) t a b p len m n := by
      rw [← iv_sm hH hO hT hB hpl hd hp n (Nat.le_refl n)]
      obtain ⟨d9, hd9⟩ : ∃ d9, 40 = n + d9 := ⟨40 - n, by have := hB.1.1; omega⟩
      rw [hd9]
      exact su_sm_0 d9 (fun k hk => by rw [hH.1 k, if_neg (by omega)])
    simp only [su_all, su_mal, ih, h40, hL m (by omega)]
    by_cases h1 : su_msm mv (fun j => su_mus mv al j d (wn j)) t a b p len m n ≤ mv 9 m
    · rw [if_pos h1, if_neg (Int32.not_lt.mpr h1)]
    · rw [if_neg h1, if_pos (Int32.not_le.mp h1)]

set_option maxHeartbeats 4000000 in
set_option maxRecDepth 100000 in
theorem st_supply (l : Launch) (hT : l.stackTraces = false) (z : Nat) (D : va_G) (ac : Nat → ClassId) (sa : Nat → Nat) (P : pm_T) (h0 hm ao : Nat) (th : Int32) (p1 : Int32) (p2 : Int32) (p3 : Int32) (p4 : Int32) (p5 : Int32) (hI : iv_I P ac h0 hm ao th) : ∃ (fs : List Value) (post : Option Value → pm_T → Prop) (xp : String → pm_T → Prop), P h0 = some (.inr (0, fs)) ∧ cx_V l yy_C_supply bb_C_supply 8 (some .int) ({ frames := 7, cells := 4, slots := 24, locals := 160 } : Room) z D ac sa P [.ref h0, .int p1, .int p2, .int p3, .int p4, .int p5] post xp ∧ (∀ v P1, post v P1 → ∃ (r : Int32) (fo : Nat → Int64), v = some (.int r) ∧ P1 ao = some (iv_o ac fo) ∧ ∀ x : Nat → Int64, ∃ (vs : List Value) (mp : Option Value → pm_T → Prop), (pm_up P1 ao (iv_o ac x)) hm = some (.inr (6, vs)) ∧ cx_M l yy_M_supply bb_M_supply 10 (some .int) ({ frames := 4, cells := 0, slots := 0, locals := 120 } : Room) z D ac sa (pm_up P1 ao (iv_o ac x)) [.ref hm, .int p1, .int p2, .int p3, .int p4, .int p5] mp ∧ ∀ w P3, mp w P3 → w = some (.int r) ∧ iv_I P3 ac h0 hm ao 0 ∧ P3 ao = some (iv_o ac x)) ∧ (∀ E P1, xp E P1 → ∃ cd : Int32, ((E = xn_IOB ∧ cd = 1)) ∧ ∃ (vs : List Value) (mp : Option Value → pm_T → Prop), P1 hm = some (.inr (6, vs)) ∧ cx_M l yy_M_supply bb_M_supply 10 (some .int) ({ frames := 4, cells := 0, slots := 0, locals := 120 } : Room) z D ac sa (P1) [.ref hm, .int p1, .int p2, .int p3, .int p4, .int p5] mp ∧ ∀ w P3, mp w P3 → (∃ b, w = some (.int b)) ∧ iv_I P3 ac h0 hm ao cd) := by
  obtain ⟨ad, ma, n, t, al, so, fH, fT, hv, tv, ov, aw, ct, fw, lm, cn, lt, ks, kf, fC, fY, fB, mv, hq, tq, wn, fo0, hC, hW, hD, hO, hP⟩ := hI
  obtain ⟨g0, g1, g2, g3, g4, g6, g5, g7, g8, g9, gn, gy, gt⟩ := id hC
  obtain ⟨hPH, hPO, hPT, hPB, hPL⟩ := id hP
  have hn40 : n ≤ 40 := hPB.1.1
  have ht100 : t ≤ 100 := hPB.1.2
  refine ⟨_, _, _, g0, c_C_supply l hT z D ac sa P h0 (ad 1) (ad 2) (ad 3) (ad 4) (ad 5) (nI n) (nI t) al fH hv tv ov aw ct fw lm p1 p2 p3 p4 p5 gy g0 g1 g3, ?_, ?_⟩
  · rintro v P1 ⟨⟨x0, x1, x2, x3, -⟩, eP, rfl⟩
    obtain ⟨d, hd, rfl⟩ := day_n x1
    have eP := eP.symm
    subst eP
    refine ⟨_, fo0, rfl, hO, fun x => ?_⟩
    have hC2 := hC.out hO (x := iv_o ac x)
    have hW2 := hW.up (x := iv_o ac x) (md_neo hW hO)
    have hO2 : pm_up P ao (iv_o ac x) ao = some (iv_o ac x) := pm_s
    refine ⟨_, _, hW2.1, c_M_supplyC l z D ac sa _ hm ma mv th al so n t hn40 ht100 p1 p2 p4 p5 (pm_1 x0) d hd (in_1 x2) (in_1 x3) wn (fun j hj => ⟨(hPO j hj).1, (hPO j hj).2.1⟩) hW2, ?_⟩
    intro w P3 hp
    obtain ⟨e1, hw3, hF⟩ := hp
    refine ⟨?_, iv_fin hC2 hW2 hD hO2 hF hw3 hP⟩
    rw [e1]
    rw [iv_all hPH hPO hPT hPB hPL.1 (pm_1 x0) hd x2.1 20 (Nat.le_refl 20)]
  · rintro E P1 ⟨eP, hx⟩
    have eP := eP.symm
    subst eP
    rcases hx with ⟨x0, rfl⟩ | ⟨y0, (⟨x1, rfl⟩ | ⟨y1, (⟨x2, rfl⟩ | ⟨y2, (⟨x3, rfl⟩ | ⟨-, hx9⟩)⟩)⟩)⟩
    · skip
      refine ⟨1, ⟨rfl, rfl⟩, _, _, hW.1, c_M_supplyA l z D ac sa P hm ma mv th al so n t hn40 ht100 p1 p2 p3 p4 p5 (by rw [pm_0 x0]; exact if_pos rfl) hW, ?_⟩
      intro w P3 hp
      obtain ⟨e1, hw3, hF⟩ := hp
      exact ⟨⟨0, e1⟩, (iv_fin hC hW hD hO hF hw3 hP).1⟩
    · skip
      refine ⟨1, ⟨rfl, rfl⟩, _, _, hW.1, c_M_supplyA l z D ac sa P hm ma mv th al so n t hn40 ht100 p1 p2 p3 p4 p5 (by rw [pm_1 y0, in_0 x1]; simp [su_n4]) hW, ?_⟩
      intro w P3 hp
      obtain ⟨e1, hw3, hF⟩ := hp
      exact ⟨⟨0, e1⟩, (iv_fin hC hW hD hO hF hw3 hP).1⟩
    · skip
      refine ⟨1, ⟨rfl, rfl⟩, _, _, hW.1, c_M_supplyA l z D ac sa P hm ma mv th al so n t hn40 ht100 p1 p2 p3 p4 p5 (by rw [pm_1 y0, in_1 y1, in_0 x2]; simp [su_n4]) hW, ?_⟩
      intro w P3 hp
      obtain ⟨e1, hw3, hF⟩ := hp
      exact ⟨⟨0, e1⟩, (iv_fin hC hW hD hO hF hw3 hP).1⟩
    · skip
      refine ⟨1, ⟨rfl, rfl⟩, _, _, hW.1, c_M_supplyA l z D ac sa P hm ma mv th al so n t hn40 ht100 p1 p2 p3 p4 p5 (by rw [pm_1 y0, in_1 y1, in_1 y2, in_0 x3]; simp [su_n4]) hW, ?_⟩
      intro w P3 hp
      obtain ⟨e1, hw3, hF⟩ := hp
      exact ⟨⟨0, e1⟩, (iv_fin hC hW hD hO hF hw3 hP).1⟩
    · exact hx9.elim
