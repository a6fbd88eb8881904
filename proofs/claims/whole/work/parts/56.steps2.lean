theorem su_ne2 {α : Type} {P : α → Prop} {o : Option α} {q : α} (h : o = some q) (hx : ∀ r, o = some r → P r) : P q := hx q h
theorem su_nx2 {α : Type} {P : α → Prop} {o : Option α} {q : α} (h : o = some q) (hx : ¬ ∀ r, o = some r → P r) : ¬ P q := fun hp => hx (fun r hr => by rw [h] at hr; cases hr; exact hp)
theorem ct_none {ct : Nat → Option Nat} {q : Nat} {o : Option Nat} {tq : Nat → Nat} (h : ct q = o.map tq) (hn : o = none) : ct q = none := by rw [h, hn]; rfl
theorem ct_some {ct : Nat → Option Nat} {q : Nat} {o : Option Nat} {tq : Nat → Nat} {i : Nat} (h : ct q = o.map tq) (hn : o = some i) : ct q = some (tq i) := by rw [h, hn]; rfl

set_option maxHeartbeats 4000000 in
set_option maxRecDepth 100000 in
theorem st_limit (l : Launch) (hT : l.stackTraces = false) (z : Nat) (D : va_G) (ac : Nat → ClassId) (sa : Nat → Nat) (P : pm_T) (h0 hm ao : Nat) (th : Int32) (p1 : Int32) (p2 : Int32) (hI : iv_I P ac h0 hm ao th) : ∃ (fs : List Value) (post : Option Value → pm_T → Prop) (xp : String → pm_T → Prop), P h0 = some (.inr (0, fs)) ∧ cx_V l yy_C_limit bb_C_limit 3 none ({ frames := 7, cells := 2, slots := 12, locals := 138 } : Room) z D ac sa P [.ref h0, .int p1, .int p2] post xp ∧ (∀ v P1, post v P1 → v = none ∧ ∃ (vs : List Value) (mp : Option Value → pm_T → Prop), P1 hm = some (.inr (6, vs)) ∧ cx_M l yy_M_limit bb_M_limit 3 none ({ frames := 3, cells := 0, slots := 0, locals := 70 } : Room) z D ac sa (P1) [.ref hm, .int p1, .int p2] mp ∧ ∀ w P3, mp w P3 → w = none ∧ iv_I P3 ac h0 hm ao 0) ∧ (∀ E P1, xp E P1 → ∃ cd : Int32, ((E = xn_IAE ∧ cd = 1) ∨ (E = xn_IOB ∧ cd = 2)) ∧ ∃ (vs : List Value) (mp : Option Value → pm_T → Prop), P1 hm = some (.inr (6, vs)) ∧ cx_M l yy_M_limit bb_M_limit 3 none ({ frames := 3, cells := 0, slots := 0, locals := 70 } : Room) z D ac sa (P1) [.ref hm, .int p1, .int p2] mp ∧ ∀ w P3, mp w P3 → w = none ∧ iv_I P3 ac h0 hm ao cd) := by
  obtain ⟨ad, ma, n, t, al, so, fH, fT, hv, tv, ov, aw, ct, fw, lm, cn, lt, ks, kf, fC, fY, fB, mv, hq, tq, wn, fo0, hC, hW, hD, hO, hP⟩ := hI
  obtain ⟨g0, g1, g2, g3, g4, g6, g5, g7, g8, g9, gn, gy, gt⟩ := id hC
  obtain ⟨hPH, hPO, hPT, hPB, hPL⟩ := id hP
  have hn40 : n ≤ 40 := hPB.1.1
  have ht100 : t ≤ 100 := hPB.1.2
  refine ⟨_, _, _, g0, c_C_limit l hT z D ac sa P h0 (ad 1) (ad 2) (ad 3) (ad 4) (ad 5) (nI n) (nI t) al lm p1 p2 g0 g3, ?_, ?_⟩
  · rintro v P1 ⟨⟨x0, x1, -⟩, rfl, eP⟩
    subst eP
    have hC1 := hC.lim (lm1 := upd lm p1.toNatClampNeg p2)
    have hW1 := hW.up (a := ad 3) (x := .inl (ac 0, 20, .inl (upd lm p1.toNatClampNeg p2))) ⟨pm_ne g3 hW.1 (by simp), fun k hk => (hD k hk).1⟩
    have hO1 : pm_up P (ad 3) (.inl (ac 0, 20, .inl (upd lm p1.toNatClampNeg p2))) ao = some (iv_o ac fo0) := by rw [pm_n (pm_ne hO g3 (by simp))]; exact hO
    refine ⟨rfl, _, _, hW1.1, c_M_limit l z D ac sa _ hm ma mv th al so n t hn40 ht100 p1 p2 hW1, ?_⟩
    intro w P3 hp
    obtain ⟨hp1, -, hF⟩ := hp
    have hG : (su_gs (su_in p1 0 19) (su_in p2 0 20000) 1 1) = 0 := by rw [in_1l (c := 20) (by decide) x0, in_1 x1]; decide
    obtain ⟨e1, hw3⟩ := hp1 hG
    rw [hG] at hw3
    refine ⟨e1, (iv_fin hC1 hW1 hD hO1 hF hw3 (hq := hq) (tq := tq) (wn := wn) ?_).1⟩
    refine ⟨hPH, hPO, hPT, hPB, fun m hm => ?_, hPL.2.1, hPL.2.2⟩
    show upd lm p1.toNatClampNeg p2 m = upd (mv 9) p1.toNatClampNeg p2 m
    by_cases h1 : m = p1.toNatClampNeg
    · rw [h1, upd_s, upd_s]
    · rw [upd_n h1, upd_n h1]; exact hPL.1 m hm
  · rintro E P1 ⟨eP, hx⟩
    have eP := eP.symm
    subst eP
    rcases hx with ⟨x0, rfl⟩ | ⟨y0, (⟨x1, rfl⟩ | ⟨-, hx9⟩)⟩
    · skip
      refine ⟨1, .inl ⟨rfl, rfl⟩, _, _, hW.1, c_M_limit l z D ac sa P hm ma mv th al so n t hn40 ht100 p1 p2 hW, ?_⟩
      intro w P3 hp
      obtain ⟨-, hp2, hF⟩ := hp
      have hG : (su_gs (su_in p1 0 19) (su_in p2 0 20000) 1 1) = 1 := by rw [in_0l (c := 20) (by decide) x0]; exact if_pos rfl
      obtain ⟨e1, hw3⟩ := hp2 (by rw [hG]; decide)
      rw [hG] at hw3
      exact ⟨e1, (iv_fin hC hW hD hO hF hw3 hP).1⟩
    · skip
      refine ⟨2, .inr (⟨rfl, rfl⟩), _, _, hW.1, c_M_limit l z D ac sa P hm ma mv th al so n t hn40 ht100 p1 p2 hW, ?_⟩
      intro w P3 hp
      obtain ⟨-, hp2, hF⟩ := hp
      have hG : (su_gs (su_in p1 0 19) (su_in p2 0 20000) 1 1) = 2 := by rw [in_1l (c := 20) (by decide) y0, in_0 x1]; decide
      obtain ⟨e1, hw3⟩ := hp2 (by rw [hG]; decide)
      rw [hG] at hw3
      exact ⟨e1, (iv_fin hC hW hD hO hF hw3 hP).1⟩
    · exact hx9.elim

set_option maxHeartbeats 4000000 in
set_option maxRecDepth 100000 in
theorem st_defect (l : Launch) (hT : l.stackTraces = false) (z : Nat) (D : va_G) (ac : Nat → ClassId) (sa : Nat → Nat) (P : pm_T) (h0 hm ao : Nat) (th : Int32) (p1 : Int32) (p2 : Int32) (hI : iv_I P ac h0 hm ao th) : ∃ (fs : List Value) (post : Option Value → pm_T → Prop) (xp : String → pm_T → Prop), P h0 = some (.inr (0, fs)) ∧ cx_V l yy_C_defect bb_C_defect 4 none ({ frames := 7, cells := 2, slots := 12, locals := 138 } : Room) z D ac sa P [.ref h0, .int p1, .int p2] post xp ∧ (∀ v P1, post v P1 → v = none ∧ ∃ (vs : List Value) (mp : Option Value → pm_T → Prop), P1 hm = some (.inr (6, vs)) ∧ cx_M l yy_M_defect bb_M_defect 3 none ({ frames := 3, cells := 0, slots := 0, locals := 70 } : Room) z D ac sa (P1) [.ref hm, .int p1, .int p2] mp ∧ ∀ w P3, mp w P3 → w = none ∧ iv_I P3 ac h0 hm ao 0) ∧ (∀ E P1, xp E P1 → ∃ cd : Int32, ((E = xn_IAE ∧ cd = 1) ∨ (E = xn_IOB ∧ cd = 2)) ∧ ∃ (vs : List Value) (mp : Option Value → pm_T → Prop), P1 hm = some (.inr (6, vs)) ∧ cx_M l yy_M_defect bb_M_defect 3 none ({ frames := 3, cells := 0, slots := 0, locals := 70 } : Room) z D ac sa (P1) [.ref hm, .int p1, .int p2] mp ∧ ∀ w P3, mp w P3 → w = none ∧ iv_I P3 ac h0 hm ao cd) := by
  obtain ⟨ad, ma, n, t, al, so, fH, fT, hv, tv, ov, aw, ct, fw, lm, cn, lt, ks, kf, fC, fY, fB, mv, hq, tq, wn, fo0, hC, hW, hD, hO, hP⟩ := hI
  obtain ⟨g0, g1, g2, g3, g4, g6, g5, g7, g8, g9, gn, gy, gt⟩ := id hC
  obtain ⟨hPH, hPO, hPT, hPB, hPL⟩ := id hP
  have hn40 : n ≤ 40 := hPB.1.1
  have ht100 : t ≤ 100 := hPB.1.2
  refine ⟨_, _, _, g0, c_C_defect l hT z D ac sa P h0 (ad 1) (ad 2) (ad 3) (ad 4) (ad 5) (nI n) (nI t) al fH hv tv ov aw ct fw p1 p2 gy g0 g1, ?_, ?_⟩
  · rintro v P1 ⟨⟨x0, x1, -⟩, rfl, q9, hk, eP⟩
    rcases iv_kn hPH hn40 p1 with ⟨j, hj, rfl, e9j⟩ | ⟨-, e9⟩
    rotate_left
    · exact absurd e9 (su_ne hk)
    rw [e9j] at hk
    cases hk
    obtain ⟨hv1, ehv⟩ : ∃ hv1 : Nat → Nat → Int32, hv1 = va_up hv 7 (upd (hv 7) (hq j) p2) := ⟨_, rfl⟩
    have hag : ∀ i a, a ≠ hq j → hv1 i a = hv i a := fun i a ha => by rw [ehv]; simp only [va_up]; by_cases h1 : i = 7 <;> simp only [h1, if_true, if_false, upd_n ha]
    have h70 : hv1 0 (hq j) = hv 0 (hq j) := by rw [ehv]; rfl
    have h71 : hv1 1 (hq j) = hv 1 (hq j) := by rw [ehv]; rfl
    have h72 : hv1 2 (hq j) = hv 2 (hq j) := by rw [ehv]; rfl
    have h73 : hv1 3 (hq j) = hv 3 (hq j) := by rw [ehv]; rfl
    have h74 : hv1 4 (hq j) = hv 4 (hq j) := by rw [ehv]; rfl
    have h76 : hv1 6 (hq j) = hv 6 (hq j) := by rw [ehv]; rfl
    have h77 : hv1 7 (hq j) = p2 := by rw [ehv]; exact upd_s
    have h78 : hv1 8 (hq j) = hv 8 (hq j) := by rw [ehv]; rfl
    have h79 : hv1 9 (hq j) = hv 9 (hq j) := by rw [ehv]; rfl
    have eP : P1 = pm_up P (hq j) (iv_h hv1 aw ct (hq j)) := by rw [eP]; simp only [iv_h, h70, h71, h72, h73, h74, h76, h77, h78, h79]
    subst eP
    have hqj := hq_at hPH hj
    have gq := (gy j (hq j) hqj).1
    have hC1 := hC.hyd hqj hag
    have hW1 := hW.up (x := iv_h hv1 aw ct (hq j)) (md_ne hW gq rfl)
    have hO1 : pm_up P (hq j) (iv_h hv1 aw ct (hq j)) ao = some (iv_o ac fo0) := by rw [pm_n (pm_ne hO gq (by simp))]; exact hO
    refine ⟨rfl, _, _, hW1.1, c_M_defect l z D ac sa _ hm ma mv th al so n t hn40 ht100 (nI j) p2 hW1, ?_⟩
    intro w P3 hp
    obtain ⟨hp1, -, hF⟩ := hp
    have hG : (su_gs (su_in (nI j) 0 (nI n - 1)) (su_in p2 0 2) 1 1) = 0 := by rw [su_hin_i hj hn40, in_1 x1]; decide
    obtain ⟨e1, hw3⟩ := hp1 hG
    rw [hG] at hw3
    refine ⟨e1, (iv_fin hC1 hW1 hD hO1 hF hw3 (hq := hq) (tq := tq) (wn := wn) ?_).1⟩
    rw [nI_clamp (show j < 2 ^ 31 by omega)]
    refine ⟨⟨hPH.1, hPH.2.1, fun k hk => ?_⟩, hPO, hPT, ?_, hPL⟩
    · obtain ⟨t0, t1, t2, t3, t4, t6, t7, t8, t9, ta⟩ := hPH.2.2 k hk
      rw [ehv]
      refine ⟨t0, t1, t2, t3, t4, t6, ?_, t8, t9, ta⟩
      show upd (hv 7) (hq j) p2 (hq k) = upd (mv 4) j p2 k
      by_cases hkj : k = j
      · rw [hkj, upd_s, upd_s]
      · rw [upd_n (fun h => hkj (hq_inj hPH hn40 hk hj h)), upd_n hkj]; exact t7
    · obtain ⟨b1, b2, b3, b4, b5, b6, b7, b8⟩ := hPB
      refine ⟨b1, b2, b3, b4, b5, b6, b7, fun k h1 h2 => ?_⟩
      obtain ⟨c1, c2, c3⟩ := b8 k h1 h2
      refine ⟨?_, c2, c3⟩
      show upd (mv 4) j p2 k = 0
      rw [upd_n (by omega)]; exact c1
  · rintro E P1 ⟨eP, hx⟩
    have eP := eP.symm
    subst eP
    rcases hx with ⟨x0, rfl⟩ | ⟨y0, (⟨x1, rfl⟩ | ⟨-, hx9⟩)⟩
    · skip
      rcases iv_kn hPH hn40 p1 with ⟨j, hj, rfl, e9⟩ | ⟨hA, e9⟩
      · exact absurd (by rw [e9]; exact fun h => nomatch h) x0
      · skip
        refine ⟨1, .inl ⟨rfl, rfl⟩, _, _, hW.1, c_M_defect l z D ac sa P hm ma mv th al so n t hn40 ht100 p1 p2 hW, ?_⟩
        intro w P3 hp
        obtain ⟨-, hp2, hF⟩ := hp
        have hG : (su_gs (su_in p1 0 (nI n - 1)) (su_in p2 0 2) 1 1) = 1 := by rw [hA]; exact if_pos rfl
        obtain ⟨e1, hw3⟩ := hp2 (by rw [hG]; decide)
        rw [hG] at hw3
        exact ⟨e1, (iv_fin hC hW hD hO hF hw3 hP).1⟩
    · skip
      rcases iv_kn hPH hn40 p1 with ⟨j, hj, rfl, e9j⟩ | ⟨-, e9⟩
      rotate_left
      · exact absurd e9 y0
      refine ⟨2, .inr (⟨rfl, rfl⟩), _, _, hW.1, c_M_defect l z D ac sa P hm ma mv th al so n t hn40 ht100 (nI j) p2 hW, ?_⟩
      intro w P3 hp
      obtain ⟨-, hp2, hF⟩ := hp
      have hG : (su_gs (su_in (nI j) 0 (nI n - 1)) (su_in p2 0 2) 1 1) = 2 := by rw [su_hin_i hj hn40, in_0 x1]; decide
      obtain ⟨e1, hw3⟩ := hp2 (by rw [hG]; decide)
      rw [hG] at hw3
      exact ⟨e1, (iv_fin hC hW hD hO hF hw3 hP).1⟩
    · exact hx9.elim

set_option maxHeartbeats 4000000 in
set_option maxRecDepth 100000 in
theorem st_flow (l : Launch) (hT : l.stackTraces = false) (z : Nat) (D : va_G) (ac : Nat → ClassId) (sa : Nat → Nat) (P : pm_T) (h0 hm ao : Nat) (th : Int32) (p1 : Int32) (p2 : Int32) (p3 : Int32) (hI : iv_I P ac h0 hm ao th) : ∃ (fs : List Value) (post : Option Value → pm_T → Prop) (xp : String → pm_T → Prop), P h0 = some (.inr (0, fs)) ∧ cx_V l yy_C_flow bb_C_flow 8 (some .int) ({ frames := 7, cells := 5, slots := 30, locals := 138 } : Room) z D ac sa P [.ref h0, .int p1, .int p2, .int p3] post xp ∧ (∀ v P1, post v P1 → ∃ (r : Int32) (fo : Nat → Int64), v = some (.int r) ∧ P1 ao = some (iv_o ac fo) ∧ ∀ x : Nat → Int64, ∃ (vs : List Value) (mp : Option Value → pm_T → Prop), (pm_up P1 ao (iv_o ac x)) hm = some (.inr (6, vs)) ∧ cx_M l yy_M_flow bb_M_flow 8 (some .int) ({ frames := 3, cells := 0, slots := 0, locals := 90 } : Room) z D ac sa (pm_up P1 ao (iv_o ac x)) [.ref hm, .int p1, .int p2, .int p3] mp ∧ ∀ w P3, mp w P3 → w = some (.int r) ∧ iv_I P3 ac h0 hm ao 0 ∧ P3 ao = some (iv_o ac x)) ∧ (∀ E P1, xp E P1 → ∃ cd : Int32, ((E = xn_IAE ∧ cd = 1) ∨ (E = xn_IOB ∧ cd = 2) ∨ (E = xn_ISE ∧ cd = 3) ∨ (E = xn_ARE ∧ cd = 4)) ∧ ∃ (vs : List Value) (mp : Option Value → pm_T → Prop), P1 hm = some (.inr (6, vs)) ∧ cx_M l yy_M_flow bb_M_flow 8 (some .int) ({ frames := 3, cells := 0, slots := 0, locals := 90 } : Room) z D ac sa (P1) [.ref hm, .int p1, .int p2, .int p3] mp ∧ ∀ w P3, mp w P3 → (∃ b, w = some (.int b)) ∧ iv_I P3 ac h0 hm ao cd) := by
  obtain ⟨ad, ma, n, t, al, so, fH, fT, hv, tv, ov, aw, ct, fw, lm, cn, lt, ks, kf, fC, fY, fB, mv, hq, tq, wn, fo0, hC, hW, hD, hO, hP⟩ := hI
  obtain ⟨g0, g1, g2, g3, g4, g6, g5, g7, g8, g9, gn, gy, gt⟩ := id hC
  obtain ⟨hPH, hPO, hPT, hPB, hPL⟩ := id hP
  have hn40 : n ≤ 40 := hPB.1.1
  have ht100 : t ≤ 100 := hPB.1.2
  refine ⟨_, _, _, g0, c_C_flow l hT z D ac sa P h0 (ad 1) (ad 2) (ad 3) (ad 4) (ad 5) (nI n) (nI t) al fH hv tv ov aw ct fw p1 p2 p3 gy g0 g1, ?_, ?_⟩
  · rintro v P1 ⟨⟨x0, x1, x2, x3, x4, -⟩, eP, q9, t8, hk, hc9, rfl⟩
    rcases iv_kn hPH hn40 p1 with ⟨j, hj, rfl, e9j⟩ | ⟨-, e9⟩
    rotate_left
    · exact absurd e9 (su_ne hk)
    rw [e9j] at hk
    cases hk
    have t9 := (hPH.2.2 j hj).2.2.2.2.2.2.2.2.1
    rcases hq9 : su_cm (mv 10) (mv 11) (nI j) t with _ | i9
    · rw [ct_none t9 hq9] at hc9; cases hc9
    · rw [ct_some t9 hq9] at hc9
      cases hc9
      have hi := su_cm_lt hq9
      obtain ⟨-, -, -, u3, u4, u5⟩ := hPT.2 i9 hi
      have hct : ¬ su_mct mv i9 p2 = 0 := (iv_num hPB hi x2.1).2.1.mp (by have := su_ne2 e9j x4 _ (ct_some t9 hq9); rw [u3, u5] at this; exact this)
      have eP := eP.symm
      subst eP
      refine ⟨_, fo0, rfl, hO, fun x => ?_⟩
      have hC2 := hC.out hO (x := iv_o ac x)
      have hW2 := hW.up (x := iv_o ac x) (md_neo hW hO)
      have hO2 : pm_up P ao (iv_o ac x) ao = some (iv_o ac x) := pm_s
      refine ⟨_, _, hW2.1, c_M_flowC l z D ac sa _ hm ma mv th al so n t hn40 ht100 j hj i9 p2 p3 hq9 hW2, ?_⟩
      intro w P3 hp
      obtain ⟨hp1, -, hF⟩ := hp
      have hG : (su_gs (su_b (su_in p3 0 1)) (su_in p2 0 2000) 1 (su_b (su_mct mv i9 p2))) = 0 := by rw [in_1 x1, in_1 x2, su_b, su_b, if_neg hct]; decide
      obtain ⟨e1, hw3⟩ := hp1 hG
      rw [hG] at hw3
      refine ⟨?_, iv_fin hC2 hW2 hD hO2 hF hw3 hP⟩
      rw [e1]
      rw [u3, u4, u5, iv_flw hPB hi x2.1 hct]
  · rintro E P1 ⟨eP, hx⟩
    have eP := eP.symm
    subst eP
    rcases hx with ⟨x0, rfl⟩ | ⟨y0, (⟨x1, rfl⟩ | ⟨y1, (⟨x2, rfl⟩ | ⟨y2, (⟨x3, rfl⟩ | ⟨y3, (⟨x4, rfl⟩ | ⟨-, hx9⟩)⟩)⟩)⟩)⟩
    · skip
      rcases iv_kn hPH hn40 p1 with ⟨j, hj, rfl, e9⟩ | ⟨hA, e9⟩
      · exact absurd (by rw [e9]; exact fun h => nomatch h) x0
      · skip
        refine ⟨1, .inl ⟨rfl, rfl⟩, _, _, hW.1, c_M_flowA l z D ac sa P hm ma mv th al so n t hn40 ht100 p1 p2 p3 hA hW, ?_⟩
        intro w P3 hp
        obtain ⟨e1, hw3, hF⟩ := hp
        exact ⟨⟨0, e1⟩, (iv_fin hC hW hD hO hF hw3 hP).1⟩
    · skip
      rcases iv_kn hPH hn40 p1 with ⟨j, hj, rfl, e9j⟩ | ⟨-, e9⟩
      rotate_left
      · exact absurd e9 y0
      have t9 := (hPH.2.2 j hj).2.2.2.2.2.2.2.2.1
      rcases hq9 : su_cm (mv 10) (mv 11) (nI j) t with _ | i9
      · skip
        refine ⟨1, .inl ⟨rfl, rfl⟩, _, _, hW.1, c_M_flowB l z D ac sa P hm ma mv th al so n t hn40 ht100 j hj p2 p3 hq9 hW, ?_⟩
        intro w P3 hp
        obtain ⟨e1, hw3, hF⟩ := hp
        rw [show (su_gs (su_b (su_in p3 0 1)) (su_in p2 0 2000) 0 0) = 1 from by rw [in_0 x1, su_b, if_pos rfl]; exact if_pos rfl] at hw3
        exact ⟨⟨0, e1⟩, (iv_fin hC hW hD hO hF hw3 hP).1⟩
      · skip
        refine ⟨1, .inl ⟨rfl, rfl⟩, _, _, hW.1, c_M_flowC l z D ac sa P hm ma mv th al so n t hn40 ht100 j hj i9 p2 p3 hq9 hW, ?_⟩
        intro w P3 hp
        obtain ⟨-, hp2, hF⟩ := hp
        have hG : (su_gs (su_b (su_in p3 0 1)) (su_in p2 0 2000) 1 (su_b (su_mct mv i9 p2))) = 1 := by rw [in_0 x1, su_b, if_pos rfl]; exact if_pos rfl
        obtain ⟨e1, hw3⟩ := hp2 (by rw [hG]; decide)
        rw [hG] at hw3
        exact ⟨⟨0, e1⟩, (iv_fin hC hW hD hO hF hw3 hP).1⟩
    · skip
      rcases iv_kn hPH hn40 p1 with ⟨j, hj, rfl, e9j⟩ | ⟨-, e9⟩
      rotate_left
      · exact absurd e9 y0
      have t9 := (hPH.2.2 j hj).2.2.2.2.2.2.2.2.1
      rcases hq9 : su_cm (mv 10) (mv 11) (nI j) t with _ | i9
      · skip
        refine ⟨2, .inr (.inl ⟨rfl, rfl⟩), _, _, hW.1, c_M_flowB l z D ac sa P hm ma mv th al so n t hn40 ht100 j hj p2 p3 hq9 hW, ?_⟩
        intro w P3 hp
        obtain ⟨e1, hw3, hF⟩ := hp
        rw [show (su_gs (su_b (su_in p3 0 1)) (su_in p2 0 2000) 0 0) = 2 from by rw [in_1 y1, in_0 x2, su_b, if_neg (by decide)]; simp [su_gs]] at hw3
        exact ⟨⟨0, e1⟩, (iv_fin hC hW hD hO hF hw3 hP).1⟩
      · skip
        refine ⟨2, .inr (.inl ⟨rfl, rfl⟩), _, _, hW.1, c_M_flowC l z D ac sa P hm ma mv th al so n t hn40 ht100 j hj i9 p2 p3 hq9 hW, ?_⟩
        intro w P3 hp
        obtain ⟨-, hp2, hF⟩ := hp
        have hG : (su_gs (su_b (su_in p3 0 1)) (su_in p2 0 2000) 1 (su_b (su_mct mv i9 p2))) = 2 := by rw [in_1 y1, in_0 x2, su_b, if_neg (by decide)]; simp [su_gs]
        obtain ⟨e1, hw3⟩ := hp2 (by rw [hG]; decide)
        rw [hG] at hw3
        exact ⟨⟨0, e1⟩, (iv_fin hC hW hD hO hF hw3 hP).1⟩
    · skip
      rcases iv_kn hPH hn40 p1 with ⟨j, hj, rfl, e9j⟩ | ⟨-, e9⟩
      rotate_left
      · exact absurd e9 y0
      have t9 := (hPH.2.2 j hj).2.2.2.2.2.2.2.2.1
      rcases hq9 : su_cm (mv 10) (mv 11) (nI j) t with _ | i9
      · skip
        refine ⟨3, .inr (.inr (.inl ⟨rfl, rfl⟩)), _, _, hW.1, c_M_flowB l z D ac sa P hm ma mv th al so n t hn40 ht100 j hj p2 p3 hq9 hW, ?_⟩
        intro w P3 hp
        obtain ⟨e1, hw3, hF⟩ := hp
        rw [show (su_gs (su_b (su_in p3 0 1)) (su_in p2 0 2000) 0 0) = 3 from by rw [in_1 y1, in_1 y2, su_b, if_neg (by decide)]; decide] at hw3
        exact ⟨⟨0, e1⟩, (iv_fin hC hW hD hO hF hw3 hP).1⟩
      · exact absurd (su_ne (ct_some t9 hq9)) (su_nx2 (P := fun r => ¬ ct r = none) e9j x3)
    · skip
      rcases iv_kn hPH hn40 p1 with ⟨j, hj, rfl, e9j⟩ | ⟨-, e9⟩
      rotate_left
      · exact absurd e9 y0
      have t9 := (hPH.2.2 j hj).2.2.2.2.2.2.2.2.1
      rcases hq9 : su_cm (mv 10) (mv 11) (nI j) t with _ | i9
      · exact absurd (ct_none t9 hq9) (su_ne2 (P := fun r => ¬ ct r = none) e9j y3)
      · have hi := su_cm_lt hq9
        obtain ⟨-, -, -, u3, u4, u5⟩ := hPT.2 i9 hi
        have hct : su_mct mv i9 p2 = 0 := Classical.byContradiction (fun h => su_nx2 e9j x4 (fun t7 ht7 => by rw [ct_some t9 hq9] at ht7; cases ht7; rw [u3, u5]; exact (iv_num hPB hi y2.1).2.1.mpr h))
        refine ⟨4, .inr (.inr (.inr (⟨rfl, rfl⟩))), _, _, hW.1, c_M_flowC l z D ac sa P hm ma mv th al so n t hn40 ht100 j hj i9 p2 p3 hq9 hW, ?_⟩
        intro w P3 hp
        obtain ⟨-, hp2, hF⟩ := hp
        have hG : (su_gs (su_b (su_in p3 0 1)) (su_in p2 0 2000) 1 (su_b (su_mct mv i9 p2))) = 4 := by rw [in_1 y1, in_1 y2, hct]; decide
        obtain ⟨e1, hw3⟩ := hp2 (by rw [hG]; decide)
        rw [hG] at hw3
        exact ⟨⟨0, e1⟩, (iv_fin hC hW hD hO hF hw3 hP).1⟩
    · exact hx9.elim

set_option maxHeartbeats 4000000 in
set_option maxRecDepth 100000 in
theorem st_sort (l : Launch) (hT : l.stackTraces = false) (z : Nat) (D : va_G) (ac : Nat → ClassId) (sa : Nat → Nat) (P : pm_T) (h0 hm ao : Nat) (th : Int32) (p1 : Int32) (hI : iv_I P ac h0 hm ao th) : ∃ (fs : List Value) (post : Option Value → pm_T → Prop) (xp : String → pm_T → Prop), P h0 = some (.inr (0, fs)) ∧ cx_V l yy_C_sort bb_C_sort 3 (some .int) ({ frames := 7, cells := 3, slots := 18, locals := 138 } : Room) z D ac sa P [.ref h0, .int p1] post xp ∧ (∀ v P1, post v P1 → ∃ (r : Int32) (fo : Nat → Int64), v = some (.int r) ∧ P1 ao = some (iv_o ac fo) ∧ ∀ x : Nat → Int64, ∃ (vs : List Value) (mp : Option Value → pm_T → Prop), (pm_up P1 ao (iv_o ac x)) hm = some (.inr (6, vs)) ∧ cx_M l yy_M_sort bb_M_sort 4 (some .int) ({ frames := 3, cells := 0, slots := 0, locals := 90 } : Room) z D ac sa (pm_up P1 ao (iv_o ac x)) [.ref hm, .int p1] mp ∧ ∀ w P3, mp w P3 → w = some (.int r) ∧ iv_I P3 ac h0 hm ao 0 ∧ P3 ao = some (iv_o ac x)) ∧ (∀ E P1, xp E P1 → ∃ cd : Int32, ((E = xn_IAE ∧ cd = 1) ∨ (E = xn_ISE ∧ cd = 2) ∨ (E = xn_ARE ∧ cd = 3)) ∧ ∃ (vs : List Value) (mp : Option Value → pm_T → Prop), P1 hm = some (.inr (6, vs)) ∧ cx_M l yy_M_sort bb_M_sort 4 (some .int) ({ frames := 3, cells := 0, slots := 0, locals := 90 } : Room) z D ac sa (P1) [.ref hm, .int p1] mp ∧ ∀ w P3, mp w P3 → (∃ b, w = some (.int b)) ∧ iv_I P3 ac h0 hm ao cd) := by
  obtain ⟨ad, ma, n, t, al, so, fH, fT, hv, tv, ov, aw, ct, fw, lm, cn, lt, ks, kf, fC, fY, fB, mv, hq, tq, wn, fo0, hC, hW, hD, hO, hP⟩ := hI
  obtain ⟨g0, g1, g2, g3, g4, g6, g5, g7, g8, g9, gn, gy, gt⟩ := id hC
  obtain ⟨hPH, hPO, hPT, hPB, hPL⟩ := id hP
  have hn40 : n ≤ 40 := hPB.1.1
  have ht100 : t ≤ 100 := hPB.1.2
  refine ⟨_, _, _, g0, c_C_sort l hT z D ac sa P h0 (ad 1) (ad 2) (ad 3) (ad 4) (ad 5) (nI n) (nI t) al fH hv tv ov aw ct fw p1 gy g0 g1, ?_, ?_⟩
  · rintro v P1 ⟨⟨x0, x3, x4, -⟩, eP, q9, t8, hk, hc9, rfl⟩
    rcases iv_kn hPH hn40 p1 with ⟨j, hj, rfl, e9j⟩ | ⟨-, e9⟩
    rotate_left
    · exact absurd e9 (su_ne hk)
    rw [e9j] at hk
    cases hk
    have t9 := (hPH.2.2 j hj).2.2.2.2.2.2.2.2.1
    rcases hq9 : su_cm (mv 10) (mv 11) (nI j) t with _ | i9
    · rw [ct_none t9 hq9] at hc9; cases hc9
    · rw [ct_some t9 hq9] at hc9
      cases hc9
      have hi := su_cm_lt hq9
      obtain ⟨-, -, -, u3, u4, u5⟩ := hPT.2 i9 hi
      have hct : ¬ su_mct mv i9 200 = 0 := (iv_num hPB hi (show ¬ (200 : Int32) < 0 by decide)).2.1.mp (by have := su_ne2 e9j x4 _ (ct_some t9 hq9); rw [u3, u5] at this; exact this)
      have eP := eP.symm
      subst eP
      refine ⟨_, fo0, rfl, hO, fun x => ?_⟩
      have hC2 := hC.out hO (x := iv_o ac x)
      have hW2 := hW.up (x := iv_o ac x) (md_neo hW hO)
      have hO2 : pm_up P ao (iv_o ac x) ao = some (iv_o ac x) := pm_s
      refine ⟨_, _, hW2.1, c_M_sortC l z D ac sa _ hm ma mv th al so n t hn40 ht100 j hj i9 hq9 hW2, ?_⟩
      intro w P3 hp
      obtain ⟨hp1, -, hF⟩ := hp
      have hG : (su_gs 1 1 (su_b (su_mct mv i9 200)) 1) = 0 := by rw [su_b, if_neg hct]; decide
      obtain ⟨e1, hw3⟩ := hp1 hG
      rw [hG] at hw3
      refine ⟨?_, iv_fin hC2 hW2 hD hO2 hF hw3 hP⟩
      rw [e1]
      rw [u3, u4, u5, iv_sq hPB hi (show ¬ (200 : Int32) < 0 by decide) hct]
  · rintro E P1 ⟨eP, hx⟩
    have eP := eP.symm
    subst eP
    rcases hx with ⟨x0, rfl⟩ | ⟨y0, (⟨x1, rfl⟩ | ⟨y1, (⟨x2, rfl⟩ | ⟨-, hx9⟩)⟩)⟩
    · skip
      rcases iv_kn hPH hn40 p1 with ⟨j, hj, rfl, e9⟩ | ⟨hA, e9⟩
      · exact absurd (by rw [e9]; exact fun h => nomatch h) x0
      · skip
        refine ⟨1, .inl ⟨rfl, rfl⟩, _, _, hW.1, c_M_sortA l z D ac sa P hm ma mv th al so n t hn40 ht100 p1 hA hW, ?_⟩
        intro w P3 hp
        obtain ⟨e1, hw3, hF⟩ := hp
        exact ⟨⟨0, e1⟩, (iv_fin hC hW hD hO hF hw3 hP).1⟩
    · skip
      rcases iv_kn hPH hn40 p1 with ⟨j, hj, rfl, e9j⟩ | ⟨-, e9⟩
      rotate_left
      · exact absurd e9 y0
      have t9 := (hPH.2.2 j hj).2.2.2.2.2.2.2.2.1
      rcases hq9 : su_cm (mv 10) (mv 11) (nI j) t with _ | i9
      · skip
        refine ⟨2, .inr (.inl ⟨rfl, rfl⟩), _, _, hW.1, c_M_sortB l z D ac sa P hm ma mv th al so n t hn40 ht100 j hj hq9 hW, ?_⟩
        intro w P3 hp
        obtain ⟨e1, hw3, hF⟩ := hp
        exact ⟨⟨0, e1⟩, (iv_fin hC hW hD hO hF hw3 hP).1⟩
      · exact absurd (su_ne (ct_some t9 hq9)) (su_nx2 (P := fun r => ¬ ct r = none) e9j x1)
    · skip
      rcases iv_kn hPH hn40 p1 with ⟨j, hj, rfl, e9j⟩ | ⟨-, e9⟩
      rotate_left
      · exact absurd e9 y0
      have t9 := (hPH.2.2 j hj).2.2.2.2.2.2.2.2.1
      rcases hq9 : su_cm (mv 10) (mv 11) (nI j) t with _ | i9
      · exact absurd (ct_none t9 hq9) (su_ne2 (P := fun r => ¬ ct r = none) e9j y1)
      · have hi := su_cm_lt hq9
        obtain ⟨-, -, -, u3, u4, u5⟩ := hPT.2 i9 hi
        have hct : su_mct mv i9 200 = 0 := Classical.byContradiction (fun h => su_nx2 e9j x2 (fun t7 ht7 => by rw [ct_some t9 hq9] at ht7; cases ht7; rw [u3, u5]; exact (iv_num hPB hi (show ¬ (200 : Int32) < 0 by decide)).2.1.mpr h))
        refine ⟨3, .inr (.inr (⟨rfl, rfl⟩)), _, _, hW.1, c_M_sortC l z D ac sa P hm ma mv th al so n t hn40 ht100 j hj i9 hq9 hW, ?_⟩
        intro w P3 hp
        obtain ⟨-, hp2, hF⟩ := hp
        have hG : (su_gs 1 1 (su_b (su_mct mv i9 200)) 1) = 3 := by rw [hct]; decide
        obtain ⟨e1, hw3⟩ := hp2 (by rw [hG]; decide)
        rw [hG] at hw3
        exact ⟨⟨0, e1⟩, (iv_fin hC hW hD hO hF hw3 hP).1⟩
    · exact hx9.elim
