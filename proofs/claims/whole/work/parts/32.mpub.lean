def su_an (a b : Int32) : Int32 := if a = 0 then 0 else if b = 0 then 0 else 1
def su_an3 (a b c : Int32) : Int32 := if a = 0 then 0 else if b = 0 then 0 else if c = 0 then 0 else 1
def su_an4 (a b c d : Int32) : Int32 := if a = 0 then 0 else if b = 0 then 0 else if c = 0 then 0 else if d = 0 then 0 else 1
def su_lt (a b : Int32) : Int32 := if b ≤ a then 0 else 1
def su_le (a b : Int32) : Int32 := if b < a then 0 else 1
def su_g0 (a : Int32) : Int32 := if a < 0 then 0 else 1
def su_eq (a b : Int32) : Int32 := if a = b then 1 else 0
theorem su_nz {a : Prop} [Decidable a] (h : ¬ (if a then (1 : Int32) else 0) = 0) : a := by
  by_cases h1 : a
  · exact h1
  · rw [if_neg h1] at h; exact absurd rfl h
theorem su_iz {a : Prop} [Decidable a] (h : (if a then (1 : Int32) else 0) = 0) : ¬ a := fun h1 => by
  rw [if_pos h1] at h; exact absurd h (by decide)
theorem su_gs0 {a b c d : Int32} (h : su_gs a b c d = 0) : ¬ a = 0 ∧ ¬ b = 0 ∧ ¬ c = 0 ∧ ¬ d = 0 := by
  unfold su_gs at h
  by_cases h1 : a = 0
  · rw [if_pos h1] at h; exact absurd h (by decide)
  · rw [if_neg h1] at h
    by_cases h2 : b = 0
    · rw [if_pos h2] at h; exact absurd h (by decide)
    · rw [if_neg h2] at h
      by_cases h3 : c = 0
      · rw [if_pos h3] at h; exact absurd h (by decide)
      · rw [if_neg h3] at h
        by_cases h4 : d = 0
        · rw [if_pos h4] at h; exact absurd h (by decide)
        · exact ⟨h1, h2, h3, h4⟩
theorem su_lt1 {a b : Int32} (h : ¬ su_lt a b = 0) : a < b := by
  unfold su_lt at h
  by_cases h1 : b ≤ a
  · rw [if_pos h1] at h; exact absurd rfl h
  · exact Int32.not_le.mp h1
theorem su_in1 {v a b : Int32} (h : ¬ su_in v a b = 0) : ¬ v < a ∧ ¬ b < v := by
  unfold su_in at h
  by_cases h1 : v < a
  · rw [if_pos h1] at h; exact absurd rfl h
  · rw [if_neg h1] at h
    by_cases h2 : b < v
    · rw [if_pos h2] at h; exact absurd rfl h
    · exact ⟨h1, h2⟩
/-- a hydrant's number in range is a natural number -/
theorem su_hin {v : Int32} {n : Nat} (hn : n ≤ 40) (h : ¬ su_in v 0 (nI n - 1) = 0) : ∃ j : Nat, j < n ∧ v = nI j := by
  obtain ⟨h1, h2⟩ := su_in1 h
  rcases Nat.eq_zero_or_pos n with h0 | h0
  · subst h0
    exact absurd h2 (fun h3 => h3 (by
      have h4 : nI 0 - 1 = -1 := by decide
      rw [h4]
      exact Int32.lt_of_lt_of_le (by decide) (Int32.not_lt.mp h1)))
  · obtain ⟨j, hj, rfl⟩ := nI_of h1
    refine ⟨j, ?_, rfl⟩
    obtain ⟨k, rfl⟩ : ∃ k, n = k + 1 := ⟨n - 1, by omega⟩
    rw [nI_pred] at h2
    rcases Nat.lt_or_ge k j with h5 | h5
    · exact absurd (nI_lt h5 hj) h2
    · omega
theorem su_hin_i {j n : Nat} (hj : j < n) (hn : n ≤ 40) : su_in (nI j) 0 (nI n - 1) = 1 := by
  obtain ⟨k, rfl⟩ : ∃ k, n = k + 1 := ⟨n - 1, by omega⟩
  rw [nI_pred, su_in, if_neg (nI_pos (by omega)), if_neg (nI_nlt (by omega) (by omega))]
theorem su_vin {v : Int32} {N : Nat} {b : Int32} (hb : b = nI (N - 1)) (h0 : 0 < N) (hN : N < 2 ^ 31) (h : ¬ su_in v 0 b = 0) : vp_in v N := by
  obtain ⟨h1, h2⟩ := su_in1 h
  obtain ⟨j, hj, rfl⟩ := nI_of h1
  refine vp_in_nI ?_ hN
  rcases Nat.lt_or_ge j N with h3 | h3
  · exact h3
  · exact absurd (by rw [hb]; exact nI_lt (by omega) hj) h2

set_option maxHeartbeats 4000000 in
set_option maxRecDepth 100000 in
theorem c_M_limit (l : Launch) (z : Nat) (D : va_G) (ac : Nat → ClassId) (sa : Nat → Nat) (P : pm_T) (h0 : Nat) (ma : Nat → Nat) (mv : Nat → Nat → Int32) (th al so : Int32) (n t : Nat) (hn40 : n ≤ 40) (ht100 : t ≤ 100) (p1 p2 : Int32) (mw : md_W P ac h0 ma mv th (nI n) al (nI t) so)  : cx_M l yy_M_limit bb_M_limit 3 none ({ frames := 3, cells := 0, slots := 0, locals := 70 } : Room) z D ac sa P [.ref h0, .int p1, .int p2] (fun v P' => ((su_gs (su_in p1 0 19) (su_in p2 0 20000) 1 1) = 0 → v = none ∧ md_W P' ac h0 ma (va_up mv 9 (upd (mv 9) p1.toNatClampNeg p2)) (su_gs (su_in p1 0 19) (su_in p2 0 20000) 1 1) (nI n) al (nI t) so) ∧ (¬ (su_gs (su_in p1 0 19) (su_in p2 0 20000) 1 1) = 0 → v = none ∧ md_W P' ac h0 ma mv (su_gs (su_in p1 0 19) (su_in p2 0 20000) 1 1) (nI n) al (nI t) so) ∧ md_F P P' h0 ma) := by
  refine cx_ofM (by decide) (Nat.le_of_ble_eq_true rfl) (fun p e s m below meth c ls hx hb hr hml hg hown hlocks hin hK hw hl => ?_)
  have hl : lv_has ls 3 [(0, .ref h0), (1, .int p1), (2, .int p2)] := hl
  have hown : s.vm.findClass cn_M = some m.cls := hown
  refine lv_aload_n hx hb dd_M_limit_0 rfl (lv_at hl 0 rfl) ?_
  refine lv_iload_n hx hb dd_M_limit_1 rfl (lv_at hl 1 rfl) ?_
  refine lv_iconst (v := 0) hx hb dd_M_limit_2 (by decide) ?_
  refine lv_bipush (v := 19) hx hb dd_M_limit_3 (by decide) ?_
  refine cx_after (cx_rS (n := 3) (As := [.int p1, .int (0 : Int32), .int (19 : Int32)]) (rest := [.ref h0]) ⟨hx, hb, hml, hown, hg⟩ (c_M_in l z D ac sa P p1 (0 : Int32) (19 : Int32)) (cx_gs gm_M_72 gt_M_in gn_M gc_M_in) (by decide +kernel) ⟨by decide, by decide⟩ hK hw rfl hl.1 rfl (Nat.le_of_ble_eq_true rfl) dd_M_limit_5 ⟨by decide, by decide⟩) hw (fun v9 P9 H locs hp hw => ?_)
  obtain ⟨rfl, e9⟩ := hp
  rw [e9] at hw
  clear e9 P9
  refine W.eq (g2 := F0 m 8 ls [.int (su_in p1 (0 : Int32) (19 : Int32)), .ref h0]) rfl ?_
  refine lv_iload_n hx hb dd_M_limit_8 rfl (lv_at hl 2 rfl) ?_
  refine cx_after (cx_rS (n := 1) (As := [.int p2]) (rest := [.int (su_in p1 (0 : Int32) (19 : Int32)), .ref h0]) ⟨hx, hb, hml, hown, hg⟩ (c_M_isFlow l z D ac sa P p2) (cx_gs gm_M_87 gt_M_isFlow gn_M gc_M_isFlow) (by decide +kernel) ⟨by decide, by decide⟩ hK hw rfl hl.1 rfl (Nat.le_of_ble_eq_true rfl) dd_M_limit_9 ⟨by decide, by decide⟩) hw (fun v9 P9 H locs hp hw => ?_)
  obtain ⟨rfl, e9⟩ := hp
  rw [e9] at hw
  clear e9 P9
  refine W.eq (g2 := F0 m 12 ls [.int (su_in p2 0 20000), .int (su_in p1 (0 : Int32) (19 : Int32)), .ref h0]) rfl ?_
  refine lv_iconst (v := 1) hx hb dd_M_limit_12 (by decide) ?_
  refine lv_iconst (v := 1) hx hb dd_M_limit_13 (by decide) ?_
  refine cx_after (cx_rV (n := 4) (As := [.int (su_in p1 (0 : Int32) (19 : Int32)), .int (su_in p2 0 20000), .int (1 : Int32), .int (1 : Int32)]) (rest := []) ⟨hx, hb, hml, hown, hg⟩ (c_M_goes l z D ac sa P h0 ma mv th (nI n) al (nI t) so (su_in p1 (0 : Int32) (19 : Int32)) (su_in p2 0 20000) (1 : Int32) (1 : Int32) mw) (cx_gv gm_M_83 gi_M_goes gs_M_goes gn_M gc_M_goes) (by decide +kernel) ⟨by decide, by decide⟩ hK hw mw.1 rfl rfl hl.1 rfl (Nat.le_of_ble_eq_true rfl) dd_M_limit_14 ⟨by decide, by decide⟩) hw (fun v9 P9 H locs hp hw => ?_)
  obtain ⟨rfl, e9⟩ := hp
  rw [e9] at hw
  clear e9 P9
  refine W.eq (g2 := F0 m 17 ls [.int (if (su_gs (su_in p1 (0 : Int32) (19 : Int32)) (su_in p2 0 20000) (1 : Int32) (1 : Int32)) = 0 then 1 else 0)]) rfl ?_
  obtain ⟨P31, eP31⟩ : ∃ pmv : pm_T, pmv = pm_up P h0 (md_o ma (su_gs (su_in p1 (0 : Int32) (19 : Int32)) (su_in p2 0 20000) (1 : Int32) (1 : Int32)) (nI n) al (nI t) so) := ⟨_, rfl⟩
  have hw : pm_W z D cl_w (pm_up P h0 (md_o ma (su_gs (su_in p1 (0 : Int32) (19 : Int32)) (su_in p2 0 20000) (1 : Int32) (1 : Int32)) (nI n) al (nI t) so)) s.heap H _ := hw
  rw [← eP31] at hw
  have mwP31 : md_W P31 ac h0 ma mv (su_gs (su_in p1 (0 : Int32) (19 : Int32)) (su_in p2 0 20000) (1 : Int32) (1 : Int32)) (nI n) al (nI t) so := by rw [eP31]; exact md_W.obj mw
  have mfP31 : md_F P P31 h0 ma := by rw [eP31]; exact md_F.obj md_F.rf
  refine lv_if_eq (tgt := 27) hx hb dd_M_limit_17 (by decide) (fun c32 => ?_) (fun c32 => ?_)
  · skip
    refine cx_vret hx hb hr hlocks hw dd_M_limit_27 (by decide) (by decide) ?_
    exact ⟨fun h8 => absurd h8 (su_iz c32), fun _ => ⟨rfl, mwP31⟩, mfP31⟩
  · skip
    refine lv_aload_n hx hb dd_M_limit_20 rfl (lv_at hl 0 rfl) ?_
    refine pm_get (ci := 6) (C := cn_M) (T := cf_M) (N := 23) (v := .ref (ma 9)) hx hb hg gu_M hown hK.2.1 hw mwP31.1 rfl 11 (by decide) (hg _ gf_M_38) (fun _ h9 => h9) rfl dd_M_limit_21 ?_
    refine lv_iload_n hx hb dd_M_limit_24 rfl (lv_at hl 1 rfl) ?_
    refine lv_iload_n hx hb dd_M_limit_25 rfl (lv_at hl 2 rfl) ?_
    refine pm_iast (x := p2) hx hb hK.2.1 hw 0 (show P31 (ma 9) = some (.inl (ac 0, 20, .inl (mv 9))) from mwP31.2.1 9 (by decide)) rfl (su_vin (N := 20) rfl (by decide) (by decide) (su_gs0 (su_nz c32)).1) dd_M_limit_26 (fun H locs hw => ?_)
    obtain ⟨P33, eP33⟩ : ∃ pmv : pm_T, pmv = pm_up P31 (ma 9) (md_a ac 9 (upd (mv 9) p1.toNatClampNeg p2)) := ⟨_, rfl⟩
    have hw : pm_W z D cl_w (pm_up P31 (ma 9) (md_a ac 9 (upd (mv 9) p1.toNatClampNeg p2))) s.heap H _ := hw
    rw [← eP33] at hw
    have mwP33 : md_W P33 ac h0 ma (va_up mv 9 (upd (mv 9) p1.toNatClampNeg p2)) (su_gs (su_in p1 (0 : Int32) (19 : Int32)) (su_in p2 0 20000) (1 : Int32) (1 : Int32)) (nI n) al (nI t) so := by rw [eP33]; exact md_W.put mwP31 9 (by decide)
    have mfP33 : md_F P P33 h0 ma := by rw [eP33]; exact md_F.put (by decide) mfP31
    refine cx_vret hx hb hr hlocks hw dd_M_limit_27 (by decide) (by decide) ?_
    exact ⟨fun _ => ⟨rfl, mwP33⟩, fun h8 => absurd (su_nz c32) h8, mfP33⟩

set_option maxHeartbeats 4000000 in
set_option maxRecDepth 100000 in
theorem c_M_allow (l : Launch) (z : Nat) (D : va_G) (ac : Nat → ClassId) (sa : Nat → Nat) (P : pm_T) (h0 : Nat) (ma : Nat → Nat) (mv : Nat → Nat → Int32) (th al so : Int32) (n t : Nat) (hn40 : n ≤ 40) (ht100 : t ≤ 100) (p1 : Int32) (hp1 : p1 = 0 ∨ p1 = 1) (mw : md_W P ac h0 ma mv th (nI n) al (nI t) so)  : cx_M l yy_M_allow bb_M_allow 2 none ({ frames := 0, cells := 0, slots := 0, locals := 0 } : Room) z D ac sa P [.ref h0, .int p1] (fun v P' => v = none ∧ md_W P' ac h0 ma mv 0 (nI n) p1 (nI t) so ∧ md_F P P' h0 ma) := by
  refine cx_ofM (by decide) (Nat.le_of_ble_eq_true rfl) (fun p e s m below meth c ls hx hb hr hml hg hown hlocks hin hK hw hl => ?_)
  have hl : lv_has ls 2 [(0, .ref h0), (1, .int p1)] := hl
  have hown : s.vm.findClass cn_M = some m.cls := hown
  refine lv_aload_n hx hb dd_M_allow_0 rfl (lv_at hl 0 rfl) ?_
  refine lv_iconst (v := 0) hx hb dd_M_allow_1 (by decide) ?_
  refine pm_put (ci := 6) (v := .int (0 : Int32)) (ty := .int) (C := cn_M) (T := cf_M) (N := 23) hx hb hg gu_M ct_M co_M cm_M hown hK.2.1 hw mw.1 rfl 0 (by decide) (hg _ gf_M_65) (fun _ h9 => h9) rfl (by decide +kernel) rfl rfl (Nat.le_of_ble_eq_true rfl) dd_M_allow_2 (fun H locs hw => ?_)
  obtain ⟨P31, eP31⟩ : ∃ pmv : pm_T, pmv = pm_up P h0 (md_o ma (0 : Int32) (nI n) al (nI t) so) := ⟨_, rfl⟩
  have hw : pm_W z D cl_w (pm_up P h0 (md_o ma (0 : Int32) (nI n) al (nI t) so)) s.heap H _ := hw
  rw [← eP31] at hw
  have mwP31 : md_W P31 ac h0 ma mv (0 : Int32) (nI n) al (nI t) so := by rw [eP31]; exact md_W.obj mw
  have mfP31 : md_F P P31 h0 ma := by rw [eP31]; exact md_F.obj md_F.rf
  refine lv_aload_n hx hb dd_M_allow_5 rfl (lv_at hl 0 rfl) ?_
  refine lv_iload_n hx hb dd_M_allow_6 rfl (lv_at hl 1 rfl) ?_
  refine pm_put (ci := 6) (v := .int p1) (ty := .boolean) (C := cn_M) (T := cf_M) (N := 23) hx hb hg gu_M ct_M co_M cm_M hown hK.2.1 hw mwP31.1 rfl 12 (by decide) (hg _ gf_M_91) (fun _ h9 => h9) rfl (by decide +kernel) (by rcases hp1 with h | h <;> rw [h] <;> decide) (by rcases hp1 with h | h <;> rw [h] <;> decide) (Nat.le_of_ble_eq_true rfl) dd_M_allow_7 (fun H locs hw => ?_)
  obtain ⟨P32, eP32⟩ : ∃ pmv : pm_T, pmv = pm_up P31 h0 (md_o ma (0 : Int32) (nI n) p1 (nI t) so) := ⟨_, rfl⟩
  have hw : pm_W z D cl_w (pm_up P31 h0 (md_o ma (0 : Int32) (nI n) p1 (nI t) so)) s.heap H _ := hw
  rw [← eP32] at hw
  have mwP32 : md_W P32 ac h0 ma mv (0 : Int32) (nI n) p1 (nI t) so := by rw [eP32]; exact md_W.obj mwP31
  have mfP32 : md_F P P32 h0 ma := by rw [eP32]; exact md_F.obj mfP31
  refine cx_vret hx hb hr hlocks hw dd_M_allow_10 (by decide) (by decide) ?_
  exact ⟨rfl, mwP32, mfP32⟩

set_option maxHeartbeats 4000000 in
set_option maxRecDepth 100000 in
theorem c_M_hydrant (l : Launch) (z : Nat) (D : va_G) (ac : Nat → ClassId) (sa : Nat → Nat) (P : pm_T) (h0 : Nat) (ma : Nat → Nat) (mv : Nat → Nat → Int32) (th al so : Int32) (n t : Nat) (hn40 : n ≤ 40) (ht100 : t ≤ 100) (p1 p2 p3 p4 : Int32) (mw : md_W P ac h0 ma mv th (nI n) al (nI t) so)  : cx_M l yy_M_hydrant bb_M_hydrant 5 (some .int) ({ frames := 3, cells := 0, slots := 0, locals := 70 } : Room) z D ac sa P [.ref h0, .int p1, .int p2, .int p3, .int p4] (fun v P' => ((su_gs (su_an (su_in p3 0 19) (su_in p4 0 2)) (su_pm p1 p2) (su_lt (nI n) 40) 1) = 0 → v = some (.int (nI n)) ∧ md_W P' ac h0 ma (va_up (va_up (va_up (va_up mv 0 (upd (mv 0) n p1)) 1 (upd (mv 1) n p2)) 2 (upd (mv 2) n p3)) 3 (upd (mv 3) n p4)) (su_gs (su_an (su_in p3 0 19) (su_in p4 0 2)) (su_pm p1 p2) (su_lt (nI n) 40) 1) (nI n + 1) al (nI t) so) ∧ (¬ (su_gs (su_an (su_in p3 0 19) (su_in p4 0 2)) (su_pm p1 p2) (su_lt (nI n) 40) 1) = 0 → v = some (.int 0) ∧ md_W P' ac h0 ma mv (su_gs (su_an (su_in p3 0 19) (su_in p4 0 2)) (su_pm p1 p2) (su_lt (nI n) 40) 1) (nI n) al (nI t) so) ∧ md_F P P' h0 ma) := by
  refine cx_ofM (by decide) (Nat.le_of_ble_eq_true rfl) (fun p e s m below meth c ls hx hb hr hml hg hown hlocks hin hK hw hl => ?_)
  have hl : lv_has ls 5 [(0, .ref h0), (1, .int p1), (2, .int p2), (3, .int p3), (4, .int p4)] := hl
  have hown : s.vm.findClass cn_M = some m.cls := hown
  have j45 : ∀ (H : Heap) (locs : List Loc) (ls : Array Slot), pm_W z D cl_w P s.heap H locs → lv_has ls 5 [(0, .ref h0), (1, .int p1), (2, .int p2), (3, .int p3), (4, .int p4)] → W p l e ({ frames := 3, cells := 0, slots := 0, locals := 70 } : Room) s m ([.ref h0, .int p1, .int p2, .int p3, .int p4] : List Value).toArray below meth c H locs 0 0 (MQ below (cx_Q z D (fun v P' => ((su_gs (su_an (su_in p3 0 19) (su_in p4 0 2)) (su_pm p1 p2) (su_lt (nI n) 40) 1) = 0 → v = some (.int (nI n)) ∧ md_W P' ac h0 ma (va_up (va_up (va_up (va_up mv 0 (upd (mv 0) n p1)) 1 (upd (mv 1) n p2)) 2 (upd (mv 2) n p3)) 3 (upd (mv 3) n p4)) (su_gs (su_an (su_in p3 0 19) (su_in p4 0 2)) (su_pm p1 p2) (su_lt (nI n) 40) 1) (nI n + 1) al (nI t) so) ∧ (¬ (su_gs (su_an (su_in p3 0 19) (su_in p4 0 2)) (su_pm p1 p2) (su_lt (nI n) 40) 1) = 0 → v = some (.int 0) ∧ md_W P' ac h0 ma mv (su_gs (su_an (su_in p3 0 19) (su_in p4 0 2)) (su_pm p1 p2) (su_lt (nI n) 40) 1) (nI n) al (nI t) so) ∧ md_F P P' h0 ma)) ([.ref h0, .int p1, .int p2, .int p3, .int p4] : List Value).toArray s ({ frames := 3, cells := 0, slots := 0, locals := 70 } : Room).cells ({ frames := 3, cells := 0, slots := 0, locals := 70 } : Room).slots (pm_A z)) (F0 m 45 ls [.int (su_lt (nI n) 40), .int (su_pm p1 p2), .int (su_an (su_in p3 0 19) (su_in p4 0 2)), .ref h0]) := by
    intro H locs ls hw hl
    refine lv_iconst (v := 1) hx hb dd_M_hydrant_45 (by decide) ?_
    refine cx_after (cx_rV (n := 4) (As := [.int (su_an (su_in p3 0 19) (su_in p4 0 2)), .int (su_pm p1 p2), .int (su_lt (nI n) 40), .int (1 : Int32)]) (rest := []) ⟨hx, hb, hml, hown, hg⟩ (c_M_goes l z D ac sa P h0 ma mv th (nI n) al (nI t) so (su_an (su_in p3 0 19) (su_in p4 0 2)) (su_pm p1 p2) (su_lt (nI n) 40) (1 : Int32) mw) (cx_gv gm_M_83 gi_M_goes gs_M_goes gn_M gc_M_goes) (by decide +kernel) ⟨by decide, by decide⟩ hK hw mw.1 rfl rfl hl.1 rfl (Nat.le_of_ble_eq_true rfl) dd_M_hydrant_46 ⟨by decide, by decide⟩) hw (fun v9 P9 H locs hp hw => ?_)
    obtain ⟨rfl, e9⟩ := hp
    rw [e9] at hw
    clear e9 P9
    refine W.eq (g2 := F0 m 49 ls [.int (if (su_gs (su_an (su_in p3 0 19) (su_in p4 0 2)) (su_pm p1 p2) (su_lt (nI n) 40) (1 : Int32)) = 0 then 1 else 0)]) rfl ?_
    obtain ⟨P42, eP42⟩ : ∃ pmv : pm_T, pmv = pm_up P h0 (md_o ma (su_gs (su_an (su_in p3 0 19) (su_in p4 0 2)) (su_pm p1 p2) (su_lt (nI n) 40) (1 : Int32)) (nI n) al (nI t) so) := ⟨_, rfl⟩
    have hw : pm_W z D cl_w (pm_up P h0 (md_o ma (su_gs (su_an (su_in p3 0 19) (su_in p4 0 2)) (su_pm p1 p2) (su_lt (nI n) 40) (1 : Int32)) (nI n) al (nI t) so)) s.heap H _ := hw
    rw [← eP42] at hw
    have mwP42 : md_W P42 ac h0 ma mv (su_gs (su_an (su_in p3 0 19) (su_in p4 0 2)) (su_pm p1 p2) (su_lt (nI n) 40) (1 : Int32)) (nI n) al (nI t) so := by rw [eP42]; exact md_W.obj mw
    have mfP42 : md_F P P42 h0 ma := by rw [eP42]; exact md_F.obj md_F.rf
    refine lv_if_ne (tgt := 54) hx hb dd_M_hydrant_49 (by decide) (fun c43 => ?_) (fun c43 => ?_)
    · skip
      refine lv_aload_n hx hb dd_M_hydrant_54 rfl (lv_at hl 0 rfl) ?_
      refine pm_get (ci := 6) (C := cn_M) (T := cf_M) (N := 23) (v := .ref (ma 0)) hx hb hg gu_M hown hK.2.1 hw mwP42.1 rfl 2 (by decide) (hg _ gf_M_7) (fun _ h9 => h9) rfl dd_M_hydrant_55 ?_
      refine lv_aload_n hx hb dd_M_hydrant_58 rfl (lv_at hl 0 rfl) ?_
      refine pm_get (ci := 6) (C := cn_M) (T := cf_M) (N := 23) (v := .int (nI n)) hx hb hg gu_M hown hK.2.1 hw mwP42.1 rfl 1 (by decide) (hg _ gf_M_69) (fun _ h9 => h9) rfl dd_M_hydrant_59 ?_
      refine lv_iload_n hx hb dd_M_hydrant_62 rfl (lv_at hl 1 rfl) ?_
      refine pm_iast (x := p1) hx hb hK.2.1 hw 0 (show P42 (ma 0) = some (.inl (ac 0, 40, .inl (mv 0))) from mwP42.2.1 0 (by decide)) rfl (vp_in_lg (n := 40) (by decide) (nI_pos (by omega)) (su_lt1 (su_gs0 (su_nz c43)).2.2.1)) dd_M_hydrant_63 (fun H locs hw => ?_)
      obtain ⟨P44, eP44⟩ : ∃ pmv : pm_T, pmv = pm_up P42 (ma 0) (md_a ac 0 (upd (mv 0) ((nI n).toNatClampNeg) p1)) := ⟨_, rfl⟩
      have hw : pm_W z D cl_w (pm_up P42 (ma 0) (md_a ac 0 (upd (mv 0) ((nI n).toNatClampNeg) p1))) s.heap H _ := hw
      rw [← eP44] at hw
      have mwP44 : md_W P44 ac h0 ma (va_up mv 0 (upd (mv 0) ((nI n).toNatClampNeg) p1)) (su_gs (su_an (su_in p3 0 19) (su_in p4 0 2)) (su_pm p1 p2) (su_lt (nI n) 40) (1 : Int32)) (nI n) al (nI t) so := by rw [eP44]; exact md_W.put mwP42 0 (by decide)
      have mfP44 : md_F P P44 h0 ma := by rw [eP44]; exact md_F.put (by decide) mfP42
      refine lv_aload_n hx hb dd_M_hydrant_64 rfl (lv_at hl 0 rfl) ?_
      refine pm_get (ci := 6) (C := cn_M) (T := cf_M) (N := 23) (v := .ref (ma 1)) hx hb hg gu_M hown hK.2.1 hw mwP44.1 rfl 3 (by decide) (hg _ gf_M_13) (fun _ h9 => h9) rfl dd_M_hydrant_65 ?_
      refine lv_aload_n hx hb dd_M_hydrant_68 rfl (lv_at hl 0 rfl) ?_
      refine pm_get (ci := 6) (C := cn_M) (T := cf_M) (N := 23) (v := .int (nI n)) hx hb hg gu_M hown hK.2.1 hw mwP44.1 rfl 1 (by decide) (hg _ gf_M_69) (fun _ h9 => h9) rfl dd_M_hydrant_69 ?_
      refine lv_iload_n hx hb dd_M_hydrant_72 rfl (lv_at hl 2 rfl) ?_
      refine pm_iast (x := p2) hx hb hK.2.1 hw 0 (show P44 (ma 1) = some (.inl (ac 0, 40, .inl ((va_up mv 0 (upd (mv 0) ((nI n).toNatClampNeg) p1)) 1))) from mwP44.2.1 1 (by decide)) rfl (vp_in_lg (n := 40) (by decide) (nI_pos (by omega)) (su_lt1 (su_gs0 (su_nz c43)).2.2.1)) dd_M_hydrant_73 (fun H locs hw => ?_)
      obtain ⟨P45, eP45⟩ : ∃ pmv : pm_T, pmv = pm_up P44 (ma 1) (md_a ac 1 (upd ((va_up mv 0 (upd (mv 0) ((nI n).toNatClampNeg) p1)) 1) ((nI n).toNatClampNeg) p2)) := ⟨_, rfl⟩
      have hw : pm_W z D cl_w (pm_up P44 (ma 1) (md_a ac 1 (upd ((va_up mv 0 (upd (mv 0) ((nI n).toNatClampNeg) p1)) 1) ((nI n).toNatClampNeg) p2))) s.heap H _ := hw
      rw [← eP45] at hw
      have mwP45 : md_W P45 ac h0 ma (va_up (va_up mv 0 (upd (mv 0) ((nI n).toNatClampNeg) p1)) 1 (upd ((va_up mv 0 (upd (mv 0) ((nI n).toNatClampNeg) p1)) 1) ((nI n).toNatClampNeg) p2)) (su_gs (su_an (su_in p3 0 19) (su_in p4 0 2)) (su_pm p1 p2) (su_lt (nI n) 40) (1 : Int32)) (nI n) al (nI t) so := by rw [eP45]; exact md_W.put mwP44 1 (by decide)
      have mfP45 : md_F P P45 h0 ma := by rw [eP45]; exact md_F.put (by decide) mfP44
      refine lv_aload_n hx hb dd_M_hydrant_74 rfl (lv_at hl 0 rfl) ?_
      refine pm_get (ci := 6) (C := cn_M) (T := cf_M) (N := 23) (v := .ref (ma 2)) hx hb hg gu_M hown hK.2.1 hw mwP45.1 rfl 4 (by decide) (hg _ gf_M_16) (fun _ h9 => h9) rfl dd_M_hydrant_75 ?_
      refine lv_aload_n hx hb dd_M_hydrant_78 rfl (lv_at hl 0 rfl) ?_
      refine pm_get (ci := 6) (C := cn_M) (T := cf_M) (N := 23) (v := .int (nI n)) hx hb hg gu_M hown hK.2.1 hw mwP45.1 rfl 1 (by decide) (hg _ gf_M_69) (fun _ h9 => h9) rfl dd_M_hydrant_79 ?_
      refine lv_iload_n hx hb dd_M_hydrant_82 rfl (lv_at hl 3 rfl) ?_
      refine pm_iast (x := p3) hx hb hK.2.1 hw 0 (show P45 (ma 2) = some (.inl (ac 0, 40, .inl ((va_up (va_up mv 0 (upd (mv 0) ((nI n).toNatClampNeg) p1)) 1 (upd ((va_up mv 0 (upd (mv 0) ((nI n).toNatClampNeg) p1)) 1) ((nI n).toNatClampNeg) p2)) 2))) from mwP45.2.1 2 (by decide)) rfl (vp_in_lg (n := 40) (by decide) (nI_pos (by omega)) (su_lt1 (su_gs0 (su_nz c43)).2.2.1)) dd_M_hydrant_83 (fun H locs hw => ?_)
      obtain ⟨P46, eP46⟩ : ∃ pmv : pm_T, pmv = pm_up P45 (ma 2) (md_a ac 2 (upd ((va_up (va_up mv 0 (upd (mv 0) ((nI n).toNatClampNeg) p1)) 1 (upd ((va_up mv 0 (upd (mv 0) ((nI n).toNatClampNeg) p1)) 1) ((nI n).toNatClampNeg) p2)) 2) ((nI n).toNatClampNeg) p3)) := ⟨_, rfl⟩
      have hw : pm_W z D cl_w (pm_up P45 (ma 2) (md_a ac 2 (upd ((va_up (va_up mv 0 (upd (mv 0) ((nI n).toNatClampNeg) p1)) 1 (upd ((va_up mv 0 (upd (mv 0) ((nI n).toNatClampNeg) p1)) 1) ((nI n).toNatClampNeg) p2)) 2) ((nI n).toNatClampNeg) p3))) s.heap H _ := hw
      rw [← eP46] at hw
      have mwP46 : md_W P46 ac h0 ma (va_up (va_up (va_up mv 0 (upd (mv 0) ((nI n).toNatClampNeg) p1)) 1 (upd ((va_up mv 0 (upd (mv 0) ((nI n).toNatClampNeg) p1)) 1) ((nI n).toNatClampNeg) p2)) 2 (upd ((va_up (va_up mv 0 (upd (mv 0) ((nI n).toNatClampNeg) p1)) 1 (upd ((va_up mv 0 (upd (mv 0) ((nI n).toNatClampNeg) p1)) 1) ((nI n).toNatClampNeg) p2)) 2) ((nI n).toNatClampNeg) p3)) (su_gs (su_an (su_in p3 0 19) (su_in p4 0 2)) (su_pm p1 p2) (su_lt (nI n) 40) (1 : Int32)) (nI n) al (nI t) so := by rw [eP46]; exact md_W.put mwP45 2 (by decide)
      have mfP46 : md_F P P46 h0 ma := by rw [eP46]; exact md_F.put (by decide) mfP45
      refine lv_aload_n hx hb dd_M_hydrant_84 rfl (lv_at hl 0 rfl) ?_
      refine pm_get (ci := 6) (C := cn_M) (T := cf_M) (N := 23) (v := .ref (ma 3)) hx hb hg gu_M hown hK.2.1 hw mwP46.1 rfl 5 (by decide) (hg _ gf_M_19) (fun _ h9 => h9) rfl dd_M_hydrant_85 ?_
      refine lv_aload_n hx hb dd_M_hydrant_88 rfl (lv_at hl 0 rfl) ?_
      refine pm_get (ci := 6) (C := cn_M) (T := cf_M) (N := 23) (v := .int (nI n)) hx hb hg gu_M hown hK.2.1 hw mwP46.1 rfl 1 (by decide) (hg _ gf_M_69) (fun _ h9 => h9) rfl dd_M_hydrant_89 ?_
      refine lv_iload hx hb dd_M_hydrant_92 (lv_at hl 4 rfl) ?_
      refine pm_iast (x := p4) hx hb hK.2.1 hw 0 (show P46 (ma 3) = some (.inl (ac 0, 40, .inl ((va_up (va_up (va_up mv 0 (upd (mv 0) ((nI n).toNatClampNeg) p1)) 1 (upd ((va_up mv 0 (upd (mv 0) ((nI n).toNatClampNeg) p1)) 1) ((nI n).toNatClampNeg) p2)) 2 (upd ((va_up (va_up mv 0 (upd (mv 0) ((nI n).toNatClampNeg) p1)) 1 (upd ((va_up mv 0 (upd (mv 0) ((nI n).toNatClampNeg) p1)) 1) ((nI n).toNatClampNeg) p2)) 2) ((nI n).toNatClampNeg) p3)) 3))) from mwP46.2.1 3 (by decide)) rfl (vp_in_lg (n := 40) (by decide) (nI_pos (by omega)) (su_lt1 (su_gs0 (su_nz c43)).2.2.1)) dd_M_hydrant_94 (fun H locs hw => ?_)
      obtain ⟨P47, eP47⟩ : ∃ pmv : pm_T, pmv = pm_up P46 (ma 3) (md_a ac 3 (upd ((va_up (va_up (va_up mv 0 (upd (mv 0) ((nI n).toNatClampNeg) p1)) 1 (upd ((va_up mv 0 (upd (mv 0) ((nI n).toNatClampNeg) p1)) 1) ((nI n).toNatClampNeg) p2)) 2 (upd ((va_up (va_up mv 0 (upd (mv 0) ((nI n).toNatClampNeg) p1)) 1 (upd ((va_up mv 0 (upd (mv 0) ((nI n).toNatClampNeg) p1)) 1) ((nI n).toNatClampNeg) p2)) 2) ((nI n).toNatClampNeg) p3)) 3) ((nI n).toNatClampNeg) p4)) := ⟨_, rfl⟩
      have hw : pm_W z D cl_w (pm_up P46 (ma 3) (md_a ac 3 (upd ((va_up (va_up (va_up mv 0 (upd (mv 0) ((nI n).toNatClampNeg) p1)) 1 (upd ((va_up mv 0 (upd (mv 0) ((nI n).toNatClampNeg) p1)) 1) ((nI n).toNatClampNeg) p2)) 2 (upd ((va_up (va_up mv 0 (upd (mv 0) ((nI n).toNatClampNeg) p1)) 1 (upd ((va_up mv 0 (upd (mv 0) ((nI n).toNatClampNeg) p1)) 1) ((nI n).toNatClampNeg) p2)) 2) ((nI n).toNatClampNeg) p3)) 3) ((nI n).toNatClampNeg) p4))) s.heap H _ := hw
      rw [← eP47] at hw
      have mwP47 : md_W P47 ac h0 ma (va_up (va_up (va_up (va_up mv 0 (upd (mv 0) ((nI n).toNatClampNeg) p1)) 1 (upd ((va_up mv 0 (upd (mv 0) ((nI n).toNatClampNeg) p1)) 1) ((nI n).toNatClampNeg) p2)) 2 (upd ((va_up (va_up mv 0 (upd (mv 0) ((nI n).toNatClampNeg) p1)) 1 (upd ((va_up mv 0 (upd (mv 0) ((nI n).toNatClampNeg) p1)) 1) ((nI n).toNatClampNeg) p2)) 2) ((nI n).toNatClampNeg) p3)) 3 (upd ((va_up (va_up (va_up mv 0 (upd (mv 0) ((nI n).toNatClampNeg) p1)) 1 (upd ((va_up mv 0 (upd (mv 0) ((nI n).toNatClampNeg) p1)) 1) ((nI n).toNatClampNeg) p2)) 2 (upd ((va_up (va_up mv 0 (upd (mv 0) ((nI n).toNatClampNeg) p1)) 1 (upd ((va_up mv 0 (upd (mv 0) ((nI n).toNatClampNeg) p1)) 1) ((nI n).toNatClampNeg) p2)) 2) ((nI n).toNatClampNeg) p3)) 3) ((nI n).toNatClampNeg) p4)) (su_gs (su_an (su_in p3 0 19) (su_in p4 0 2)) (su_pm p1 p2) (su_lt (nI n) 40) (1 : Int32)) (nI n) al (nI t) so := by rw [eP47]; exact md_W.put mwP46 3 (by decide)
      have mfP47 : md_F P P47 h0 ma := by rw [eP47]; exact md_F.put (by decide) mfP46
      refine lv_aload_n hx hb dd_M_hydrant_95 rfl (lv_at hl 0 rfl) ?_
      refine lv_dup hx hb dd_M_hydrant_96 rfl ?_
      refine pm_get (ci := 6) (C := cn_M) (T := cf_M) (N := 23) (v := .int (nI n)) hx hb hg gu_M hown hK.2.1 hw mwP47.1 rfl 1 (by decide) (hg _ gf_M_69) (fun _ h9 => h9) rfl dd_M_hydrant_97 ?_
      refine lv_iconst (v := 1) hx hb dd_M_hydrant_100 (by decide) ?_
      refine lv_iadd hx hb dd_M_hydrant_101 ?_
      refine lv_topi (fun x48 ex48 => ?_)
      refine pm_put (ci := 6) (v := .int x48) (ty := .int) (C := cn_M) (T := cf_M) (N := 23) hx hb hg gu_M ct_M co_M cm_M hown hK.2.1 hw mwP47.1 rfl 1 (by decide) (hg _ gf_M_69) (fun _ h9 => h9) rfl (by decide +kernel) rfl rfl (Nat.le_of_ble_eq_true rfl) dd_M_hydrant_102 (fun H locs hw => ?_)
      obtain ⟨P49, eP49⟩ : ∃ pmv : pm_T, pmv = pm_up P47 h0 (md_o ma (su_gs (su_an (su_in p3 0 19) (su_in p4 0 2)) (su_pm p1 p2) (su_lt (nI n) 40) (1 : Int32)) x48 al (nI t) so) := ⟨_, rfl⟩
      have hw : pm_W z D cl_w (pm_up P47 h0 (md_o ma (su_gs (su_an (su_in p3 0 19) (su_in p4 0 2)) (su_pm p1 p2) (su_lt (nI n) 40) (1 : Int32)) x48 al (nI t) so)) s.heap H _ := hw
      rw [← eP49] at hw
      have mwP49 : md_W P49 ac h0 ma (va_up (va_up (va_up (va_up mv 0 (upd (mv 0) ((nI n).toNatClampNeg) p1)) 1 (upd ((va_up mv 0 (upd (mv 0) ((nI n).toNatClampNeg) p1)) 1) ((nI n).toNatClampNeg) p2)) 2 (upd ((va_up (va_up mv 0 (upd (mv 0) ((nI n).toNatClampNeg) p1)) 1 (upd ((va_up mv 0 (upd (mv 0) ((nI n).toNatClampNeg) p1)) 1) ((nI n).toNatClampNeg) p2)) 2) ((nI n).toNatClampNeg) p3)) 3 (upd ((va_up (va_up (va_up mv 0 (upd (mv 0) ((nI n).toNatClampNeg) p1)) 1 (upd ((va_up mv 0 (upd (mv 0) ((nI n).toNatClampNeg) p1)) 1) ((nI n).toNatClampNeg) p2)) 2 (upd ((va_up (va_up mv 0 (upd (mv 0) ((nI n).toNatClampNeg) p1)) 1 (upd ((va_up mv 0 (upd (mv 0) ((nI n).toNatClampNeg) p1)) 1) ((nI n).toNatClampNeg) p2)) 2) ((nI n).toNatClampNeg) p3)) 3) ((nI n).toNatClampNeg) p4)) (su_gs (su_an (su_in p3 0 19) (su_in p4 0 2)) (su_pm p1 p2) (su_lt (nI n) 40) (1 : Int32)) x48 al (nI t) so := by rw [eP49]; exact md_W.obj mwP47
      have mfP49 : md_F P P49 h0 ma := by rw [eP49]; exact md_F.obj mfP47
      refine lv_aload_n hx hb dd_M_hydrant_105 rfl (lv_at hl 0 rfl) ?_
      refine pm_get (ci := 6) (C := cn_M) (T := cf_M) (N := 23) (v := .int x48) hx hb hg gu_M hown hK.2.1 hw mwP49.1 rfl 1 (by decide) (hg _ gf_M_69) (fun _ h9 => h9) rfl dd_M_hydrant_106 ?_
      refine lv_iconst (v := 1) hx hb dd_M_hydrant_109 (by decide) ?_
      refine lv_isub hx hb dd_M_hydrant_110 ?_
      refine cx_iret (v := (x48 - (1 : Int32))) hx hb hr rfl hlocks hw dd_M_hydrant_111 (by decide) (by decide) ?_
      have hcl : (nI n).toNatClampNeg = n := nI_clamp (by omega)
      rw [ex48] at mwP49
      simp only [hcl] at mwP49
      exact ⟨fun _ => ⟨by rw [ex48]; exact congrArg (fun x => some (Value.int x)) (by rw [← nI_succ, nI_pred]), mwP49⟩, fun h8 => absurd (su_nz c43) h8, mfP49⟩
    · skip
      refine lv_iconst (v := 0) hx hb dd_M_hydrant_52 (by decide) ?_
      refine cx_iret (v := (0 : Int32)) hx hb hr rfl hlocks hw dd_M_hydrant_53 (by decide) (by decide) ?_
      exact ⟨fun h8 => absurd h8 (su_iz c43), fun _ => ⟨rfl, mwP42⟩, mfP42⟩
  have j26 : ∀ (H : Heap) (locs : List Loc) (ls : Array Slot), pm_W z D cl_w P s.heap H locs → lv_has ls 5 [(0, .ref h0), (1, .int p1), (2, .int p2), (3, .int p3), (4, .int p4)] → W p l e ({ frames := 3, cells := 0, slots := 0, locals := 70 } : Room) s m ([.ref h0, .int p1, .int p2, .int p3, .int p4] : List Value).toArray below meth c H locs 0 0 (MQ below (cx_Q z D (fun v P' => ((su_gs (su_an (su_in p3 0 19) (su_in p4 0 2)) (su_pm p1 p2) (su_lt (nI n) 40) 1) = 0 → v = some (.int (nI n)) ∧ md_W P' ac h0 ma (va_up (va_up (va_up (va_up mv 0 (upd (mv 0) n p1)) 1 (upd (mv 1) n p2)) 2 (upd (mv 2) n p3)) 3 (upd (mv 3) n p4)) (su_gs (su_an (su_in p3 0 19) (su_in p4 0 2)) (su_pm p1 p2) (su_lt (nI n) 40) 1) (nI n + 1) al (nI t) so) ∧ (¬ (su_gs (su_an (su_in p3 0 19) (su_in p4 0 2)) (su_pm p1 p2) (su_lt (nI n) 40) 1) = 0 → v = some (.int 0) ∧ md_W P' ac h0 ma mv (su_gs (su_an (su_in p3 0 19) (su_in p4 0 2)) (su_pm p1 p2) (su_lt (nI n) 40) 1) (nI n) al (nI t) so) ∧ md_F P P' h0 ma)) ([.ref h0, .int p1, .int p2, .int p3, .int p4] : List Value).toArray s ({ frames := 3, cells := 0, slots := 0, locals := 70 } : Room).cells ({ frames := 3, cells := 0, slots := 0, locals := 70 } : Room).slots (pm_A z)) (F0 m 26 ls [.int (su_an (su_in p3 0 19) (su_in p4 0 2)), .ref h0]) := by
    intro H locs ls hw hl
    refine lv_iload_n hx hb dd_M_hydrant_26 rfl (lv_at hl 1 rfl) ?_
    refine lv_iload_n hx hb dd_M_hydrant_27 rfl (lv_at hl 2 rfl) ?_
    refine cx_after (cx_rS (n := 2) (As := [.int p1, .int p2]) (rest := [.int (su_an (su_in p3 0 19) (su_in p4 0 2)), .ref h0]) ⟨hx, hb, hml, hown, hg⟩ (c_M_isPlace l z D ac sa P p1 p2) (cx_gs gm_M_79 gt_M_isPlace gn_M gc_M_isPlace) (by decide +kernel) ⟨by decide, by decide⟩ hK hw rfl hl.1 rfl (Nat.le_of_ble_eq_true rfl) dd_M_hydrant_28 ⟨by decide, by decide⟩) hw (fun v9 P9 H locs hp hw => ?_)
    obtain ⟨rfl, e9⟩ := hp
    rw [e9] at hw
    clear e9 P9
    refine W.eq (g2 := F0 m 31 ls [.int (su_pm p1 p2), .int (su_an (su_in p3 0 19) (su_in p4 0 2)), .ref h0]) rfl ?_
    refine lv_aload_n hx hb dd_M_hydrant_31 rfl (lv_at hl 0 rfl) ?_
    refine pm_get (ci := 6) (C := cn_M) (T := cf_M) (N := 23) (v := .int (nI n)) hx hb hg gu_M hown hK.2.1 hw mw.1 rfl 1 (by decide) (hg _ gf_M_69) (fun _ h9 => h9) rfl dd_M_hydrant_32 ?_
    refine lv_bipush (v := 40) hx hb dd_M_hydrant_35 (by decide) ?_
    refine lv_icmp_ge (tgt := 44) hx hb dd_M_hydrant_37 (by decide) (fun c50 => ?_) (fun c50 => ?_)
    · skip
      refine lv_iconst (v := 0) hx hb dd_M_hydrant_44 (by decide) ?_
      refine W.eq (g2 := F0 m 45 ls [.int (su_lt (nI n) 40), .int (su_pm p1 p2), .int (su_an (su_in p3 0 19) (su_in p4 0 2)), .ref h0]) (by rw [show (su_lt (nI n) 40) = (0 : Int32) from by rw [su_lt, if_pos c50]]) ?_
      exact j45 _ _ ls hw (lv_sub hl [0, 1, 2, 3, 4] rfl)
    · skip
      refine lv_iconst (v := 1) hx hb dd_M_hydrant_40 (by decide) ?_
      refine lv_goto (tgt := 45) hx hb dd_M_hydrant_41 (by decide) ?_
      refine W.eq (g2 := F0 m 45 ls [.int (su_lt (nI n) 40), .int (su_pm p1 p2), .int (su_an (su_in p3 0 19) (su_in p4 0 2)), .ref h0]) (by rw [show (su_lt (nI n) 40) = (1 : Int32) from by rw [su_lt, if_neg c50]]) ?_
      exact j45 _ _ ls hw (lv_sub hl [0, 1, 2, 3, 4] rfl)
  refine lv_aload_n hx hb dd_M_hydrant_0 rfl (lv_at hl 0 rfl) ?_
  refine lv_iload_n hx hb dd_M_hydrant_1 rfl (lv_at hl 3 rfl) ?_
  refine lv_iconst (v := 0) hx hb dd_M_hydrant_2 (by decide) ?_
  refine lv_bipush (v := 19) hx hb dd_M_hydrant_3 (by decide) ?_
  refine cx_after (cx_rS (n := 3) (As := [.int p3, .int (0 : Int32), .int (19 : Int32)]) (rest := [.ref h0]) ⟨hx, hb, hml, hown, hg⟩ (c_M_in l z D ac sa P p3 (0 : Int32) (19 : Int32)) (cx_gs gm_M_72 gt_M_in gn_M gc_M_in) (by decide +kernel) ⟨by decide, by decide⟩ hK hw rfl hl.1 rfl (Nat.le_of_ble_eq_true rfl) dd_M_hydrant_5 ⟨by decide, by decide⟩) hw (fun v9 P9 H locs hp hw => ?_)
  obtain ⟨rfl, e9⟩ := hp
  rw [e9] at hw
  clear e9 P9
  refine W.eq (g2 := F0 m 8 ls [.int (su_in p3 (0 : Int32) (19 : Int32)), .ref h0]) rfl ?_
  refine lv_if_eq (tgt := 25) hx hb dd_M_hydrant_8 (by decide) (fun c51 => ?_) (fun c51 => ?_)
  · skip
    refine lv_iconst (v := 0) hx hb dd_M_hydrant_25 (by decide) ?_
    refine W.eq (g2 := F0 m 26 ls [.int (su_an (su_in p3 0 19) (su_in p4 0 2)), .ref h0]) (by rw [show (su_an (su_in p3 0 19) (su_in p4 0 2)) = (0 : Int32) from by rw [su_an, if_pos c51]]) ?_
    exact j26 _ _ ls hw (lv_sub hl [0, 1, 2, 3, 4] rfl)
  · skip
    refine lv_iload hx hb dd_M_hydrant_11 (lv_at hl 4 rfl) ?_
    refine lv_iconst (v := 0) hx hb dd_M_hydrant_13 (by decide) ?_
    refine lv_iconst (v := 2) hx hb dd_M_hydrant_14 (by decide) ?_
    refine cx_after (cx_rS (n := 3) (As := [.int p4, .int (0 : Int32), .int (2 : Int32)]) (rest := [.ref h0]) ⟨hx, hb, hml, hown, hg⟩ (c_M_in l z D ac sa P p4 (0 : Int32) (2 : Int32)) (cx_gs gm_M_72 gt_M_in gn_M gc_M_in) (by decide +kernel) ⟨by decide, by decide⟩ hK hw rfl hl.1 rfl (Nat.le_of_ble_eq_true rfl) dd_M_hydrant_15 ⟨by decide, by decide⟩) hw (fun v9 P9 H locs hp hw => ?_)
    obtain ⟨rfl, e9⟩ := hp
    rw [e9] at hw
    clear e9 P9
    refine W.eq (g2 := F0 m 18 ls [.int (su_in p4 (0 : Int32) (2 : Int32)), .ref h0]) rfl ?_
    refine lv_if_eq (tgt := 25) hx hb dd_M_hydrant_18 (by decide) (fun c52 => ?_) (fun c52 => ?_)
    · skip
      refine lv_iconst (v := 0) hx hb dd_M_hydrant_25 (by decide) ?_
      refine W.eq (g2 := F0 m 26 ls [.int (su_an (su_in p3 0 19) (su_in p4 0 2)), .ref h0]) (by rw [show (su_an (su_in p3 0 19) (su_in p4 0 2)) = (0 : Int32) from by rw [su_an, if_neg c51, if_pos c52]]) ?_
      exact j26 _ _ ls hw (lv_sub hl [0, 1, 2, 3, 4] rfl)
    · skip
      refine lv_iconst (v := 1) hx hb dd_M_hydrant_21 (by decide) ?_
      refine lv_goto (tgt := 26) hx hb dd_M_hydrant_22 (by decide) ?_
      refine W.eq (g2 := F0 m 26 ls [.int (su_an (su_in p3 0 19) (su_in p4 0 2)), .ref h0]) (by rw [show (su_an (su_in p3 0 19) (su_in p4 0 2)) = (1 : Int32) from by rw [su_an, if_neg c51, if_neg c52]]) ?_
      exact j26 _ _ ls hw (lv_sub hl [0, 1, 2, 3, 4] rfl)

set_option maxHeartbeats 4000000 in
set_option maxRecDepth 100000 in
theorem c_M_test (l : Launch) (z : Nat) (D : va_G) (ac : Nat → ClassId) (sa : Nat → Nat) (P : pm_T) (h0 : Nat) (ma : Nat → Nat) (mv : Nat → Nat → Int32) (th al so : Int32) (n t : Nat) (hn40 : n ≤ 40) (ht100 : t ≤ 100) (p1 p2 p3 p4 p5 : Int32) (mw : md_W P ac h0 ma mv th (nI n) al (nI t) so)  : cx_M l yy_M_test bb_M_test 6 (some .int) ({ frames := 3, cells := 0, slots := 0, locals := 70 } : Room) z D ac sa P [.ref h0, .int p1, .int p2, .int p3, .int p4, .int p5] (fun v P' => ((su_gs (su_in p1 0 (nI n - 1)) (su_an4 (su_in p2 0 99999) (su_in p3 0 2000) (su_in p4 0 20000) (su_in p5 0 2000)) (su_le p5 p3) (su_lt (nI t) 100)) = 0 → v = some (.int (nI t)) ∧ md_W P' ac h0 ma (va_up (va_up (va_up (va_up (va_up mv 10 (upd (mv 10) t p1)) 11 (upd (mv 11) t p2)) 12 (upd (mv 12) t p3)) 13 (upd (mv 13) t p4)) 14 (upd (mv 14) t p5)) (su_gs (su_in p1 0 (nI n - 1)) (su_an4 (su_in p2 0 99999) (su_in p3 0 2000) (su_in p4 0 20000) (su_in p5 0 2000)) (su_le p5 p3) (su_lt (nI t) 100)) (nI n) al (nI t + 1) so) ∧ (¬ (su_gs (su_in p1 0 (nI n - 1)) (su_an4 (su_in p2 0 99999) (su_in p3 0 2000) (su_in p4 0 20000) (su_in p5 0 2000)) (su_le p5 p3) (su_lt (nI t) 100)) = 0 → v = some (.int 0) ∧ md_W P' ac h0 ma mv (su_gs (su_in p1 0 (nI n - 1)) (su_an4 (su_in p2 0 99999) (su_in p3 0 2000) (su_in p4 0 20000) (su_in p5 0 2000)) (su_le p5 p3) (su_lt (nI t) 100)) (nI n) al (nI t) so) ∧ md_F P P' h0 ma) := by
  refine cx_ofM (by decide) (Nat.le_of_ble_eq_true rfl) (fun p e s m below meth c ls hx hb hr hml hg hown hlocks hin hK hw hl => ?_)
  have hl : lv_has ls 6 [(0, .ref h0), (1, .int p1), (2, .int p2), (3, .int p3), (4, .int p4), (5, .int p5)] := hl
  have hown : s.vm.findClass cn_M = some m.cls := hown
  have j66 : ∀ (H : Heap) (locs : List Loc) (ls : Array Slot), pm_W z D cl_w P s.heap H locs → lv_has ls 6 [(0, .ref h0), (1, .int p1), (2, .int p2), (3, .int p3), (4, .int p4), (5, .int p5)] → W p l e ({ frames := 3, cells := 0, slots := 0, locals := 70 } : Room) s m ([.ref h0, .int p1, .int p2, .int p3, .int p4, .int p5] : List Value).toArray below meth c H locs 0 0 (MQ below (cx_Q z D (fun v P' => ((su_gs (su_in p1 0 (nI n - 1)) (su_an4 (su_in p2 0 99999) (su_in p3 0 2000) (su_in p4 0 20000) (su_in p5 0 2000)) (su_le p5 p3) (su_lt (nI t) 100)) = 0 → v = some (.int (nI t)) ∧ md_W P' ac h0 ma (va_up (va_up (va_up (va_up (va_up mv 10 (upd (mv 10) t p1)) 11 (upd (mv 11) t p2)) 12 (upd (mv 12) t p3)) 13 (upd (mv 13) t p4)) 14 (upd (mv 14) t p5)) (su_gs (su_in p1 0 (nI n - 1)) (su_an4 (su_in p2 0 99999) (su_in p3 0 2000) (su_in p4 0 20000) (su_in p5 0 2000)) (su_le p5 p3) (su_lt (nI t) 100)) (nI n) al (nI t + 1) so) ∧ (¬ (su_gs (su_in p1 0 (nI n - 1)) (su_an4 (su_in p2 0 99999) (su_in p3 0 2000) (su_in p4 0 20000) (su_in p5 0 2000)) (su_le p5 p3) (su_lt (nI t) 100)) = 0 → v = some (.int 0) ∧ md_W P' ac h0 ma mv (su_gs (su_in p1 0 (nI n - 1)) (su_an4 (su_in p2 0 99999) (su_in p3 0 2000) (su_in p4 0 20000) (su_in p5 0 2000)) (su_le p5 p3) (su_lt (nI t) 100)) (nI n) al (nI t) so) ∧ md_F P P' h0 ma)) ([.ref h0, .int p1, .int p2, .int p3, .int p4, .int p5] : List Value).toArray s ({ frames := 3, cells := 0, slots := 0, locals := 70 } : Room).cells ({ frames := 3, cells := 0, slots := 0, locals := 70 } : Room).slots (pm_A z)) (F0 m 66 ls [.int (su_lt (nI t) 100), .int (su_le p5 p3), .int (su_an4 (su_in p2 0 99999) (su_in p3 0 2000) (su_in p4 0 20000) (su_in p5 0 2000)), .int (su_in p1 0 ((nI n) - 1)), .ref h0]) := by
    intro H locs ls hw hl
    refine cx_after (cx_rV (n := 4) (As := [.int (su_in p1 0 ((nI n) - 1)), .int (su_an4 (su_in p2 0 99999) (su_in p3 0 2000) (su_in p4 0 20000) (su_in p5 0 2000)), .int (su_le p5 p3), .int (su_lt (nI t) 100)]) (rest := []) ⟨hx, hb, hml, hown, hg⟩ (c_M_goes l z D ac sa P h0 ma mv th (nI n) al (nI t) so (su_in p1 0 ((nI n) - 1)) (su_an4 (su_in p2 0 99999) (su_in p3 0 2000) (su_in p4 0 20000) (su_in p5 0 2000)) (su_le p5 p3) (su_lt (nI t) 100) mw) (cx_gv gm_M_83 gi_M_goes gs_M_goes gn_M gc_M_goes) (by decide +kernel) ⟨by decide, by decide⟩ hK hw mw.1 rfl rfl hl.1 rfl (Nat.le_of_ble_eq_true rfl) dd_M_test_66 ⟨by decide, by decide⟩) hw (fun v9 P9 H locs hp hw => ?_)
    obtain ⟨rfl, e9⟩ := hp
    rw [e9] at hw
    clear e9 P9
    refine W.eq (g2 := F0 m 69 ls [.int (if (su_gs (su_in p1 0 ((nI n) - 1)) (su_an4 (su_in p2 0 99999) (su_in p3 0 2000) (su_in p4 0 20000) (su_in p5 0 2000)) (su_le p5 p3) (su_lt (nI t) 100)) = 0 then 1 else 0)]) rfl ?_
    obtain ⟨P46, eP46⟩ : ∃ pmv : pm_T, pmv = pm_up P h0 (md_o ma (su_gs (su_in p1 0 ((nI n) - 1)) (su_an4 (su_in p2 0 99999) (su_in p3 0 2000) (su_in p4 0 20000) (su_in p5 0 2000)) (su_le p5 p3) (su_lt (nI t) 100)) (nI n) al (nI t) so) := ⟨_, rfl⟩
    have hw : pm_W z D cl_w (pm_up P h0 (md_o ma (su_gs (su_in p1 0 ((nI n) - 1)) (su_an4 (su_in p2 0 99999) (su_in p3 0 2000) (su_in p4 0 20000) (su_in p5 0 2000)) (su_le p5 p3) (su_lt (nI t) 100)) (nI n) al (nI t) so)) s.heap H _ := hw
    rw [← eP46] at hw
    have mwP46 : md_W P46 ac h0 ma mv (su_gs (su_in p1 0 ((nI n) - 1)) (su_an4 (su_in p2 0 99999) (su_in p3 0 2000) (su_in p4 0 20000) (su_in p5 0 2000)) (su_le p5 p3) (su_lt (nI t) 100)) (nI n) al (nI t) so := by rw [eP46]; exact md_W.obj mw
    have mfP46 : md_F P P46 h0 ma := by rw [eP46]; exact md_F.obj md_F.rf
    refine lv_if_ne (tgt := 74) hx hb dd_M_test_69 (by decide) (fun c47 => ?_) (fun c47 => ?_)
    · skip
      refine lv_aload_n hx hb dd_M_test_74 rfl (lv_at hl 0 rfl) ?_
      refine pm_get (ci := 6) (C := cn_M) (T := cf_M) (N := 23) (v := .ref (ma 10)) hx hb hg gu_M hown hK.2.1 hw mwP46.1 rfl 14 (by decide) (hg _ gf_M_41) (fun _ h9 => h9) rfl dd_M_test_75 ?_
      refine lv_aload_n hx hb dd_M_test_78 rfl (lv_at hl 0 rfl) ?_
      refine pm_get (ci := 6) (C := cn_M) (T := cf_M) (N := 23) (v := .int (nI t)) hx hb hg gu_M hown hK.2.1 hw mwP46.1 rfl 13 (by decide) (hg _ gf_M_104) (fun _ h9 => h9) rfl dd_M_test_79 ?_
      refine lv_iload_n hx hb dd_M_test_82 rfl (lv_at hl 1 rfl) ?_
      refine pm_iast (x := p1) hx hb hK.2.1 hw 0 (show P46 (ma 10) = some (.inl (ac 0, 100, .inl (mv 10))) from mwP46.2.1 10 (by decide)) rfl (vp_in_lg (n := 100) (by decide) (nI_pos (by omega)) (su_lt1 (su_gs0 (su_nz c47)).2.2.2)) dd_M_test_83 (fun H locs hw => ?_)
      obtain ⟨P48, eP48⟩ : ∃ pmv : pm_T, pmv = pm_up P46 (ma 10) (md_a ac 10 (upd (mv 10) ((nI t).toNatClampNeg) p1)) := ⟨_, rfl⟩
      have hw : pm_W z D cl_w (pm_up P46 (ma 10) (md_a ac 10 (upd (mv 10) ((nI t).toNatClampNeg) p1))) s.heap H _ := hw
      rw [← eP48] at hw
      have mwP48 : md_W P48 ac h0 ma (va_up mv 10 (upd (mv 10) ((nI t).toNatClampNeg) p1)) (su_gs (su_in p1 0 ((nI n) - 1)) (su_an4 (su_in p2 0 99999) (su_in p3 0 2000) (su_in p4 0 20000) (su_in p5 0 2000)) (su_le p5 p3) (su_lt (nI t) 100)) (nI n) al (nI t) so := by rw [eP48]; exact md_W.put mwP46 10 (by decide)
      have mfP48 : md_F P P48 h0 ma := by rw [eP48]; exact md_F.put (by decide) mfP46
      refine lv_aload_n hx hb dd_M_test_84 rfl (lv_at hl 0 rfl) ?_
      refine pm_get (ci := 6) (C := cn_M) (T := cf_M) (N := 23) (v := .ref (ma 11)) hx hb hg gu_M hown hK.2.1 hw mwP48.1 rfl 15 (by decide) (hg _ gf_M_44) (fun _ h9 => h9) rfl dd_M_test_85 ?_
      refine lv_aload_n hx hb dd_M_test_88 rfl (lv_at hl 0 rfl) ?_
      refine pm_get (ci := 6) (C := cn_M) (T := cf_M) (N := 23) (v := .int (nI t)) hx hb hg gu_M hown hK.2.1 hw mwP48.1 rfl 13 (by decide) (hg _ gf_M_104) (fun _ h9 => h9) rfl dd_M_test_89 ?_
      refine lv_iload_n hx hb dd_M_test_92 rfl (lv_at hl 2 rfl) ?_
      refine pm_iast (x := p2) hx hb hK.2.1 hw 0 (show P48 (ma 11) = some (.inl (ac 0, 100, .inl ((va_up mv 10 (upd (mv 10) ((nI t).toNatClampNeg) p1)) 11))) from mwP48.2.1 11 (by decide)) rfl (vp_in_lg (n := 100) (by decide) (nI_pos (by omega)) (su_lt1 (su_gs0 (su_nz c47)).2.2.2)) dd_M_test_93 (fun H locs hw => ?_)
      obtain ⟨P49, eP49⟩ : ∃ pmv : pm_T, pmv = pm_up P48 (ma 11) (md_a ac 11 (upd ((va_up mv 10 (upd (mv 10) ((nI t).toNatClampNeg) p1)) 11) ((nI t).toNatClampNeg) p2)) := ⟨_, rfl⟩
      have hw : pm_W z D cl_w (pm_up P48 (ma 11) (md_a ac 11 (upd ((va_up mv 10 (upd (mv 10) ((nI t).toNatClampNeg) p1)) 11) ((nI t).toNatClampNeg) p2))) s.heap H _ := hw
      rw [← eP49] at hw
      have mwP49 : md_W P49 ac h0 ma (va_up (va_up mv 10 (upd (mv 10) ((nI t).toNatClampNeg) p1)) 11 (upd ((va_up mv 10 (upd (mv 10) ((nI t).toNatClampNeg) p1)) 11) ((nI t).toNatClampNeg) p2)) (su_gs (su_in p1 0 ((nI n) - 1)) (su_an4 (su_in p2 0 99999) (su_in p3 0 2000) (su_in p4 0 20000) (su_in p5 0 2000)) (su_le p5 p3) (su_lt (nI t) 100)) (nI n) al (nI t) so := by rw [eP49]; exact md_W.put mwP48 11 (by decide)
      have mfP49 : md_F P P49 h0 ma := by rw [eP49]; exact md_F.put (by decide) mfP48
      refine lv_aload_n hx hb dd_M_test_94 rfl (lv_at hl 0 rfl) ?_
      refine pm_get (ci := 6) (C := cn_M) (T := cf_M) (N := 23) (v := .ref (ma 12)) hx hb hg gu_M hown hK.2.1 hw mwP49.1 rfl 16 (by decide) (hg _ gf_M_47) (fun _ h9 => h9) rfl dd_M_test_95 ?_
      refine lv_aload_n hx hb dd_M_test_98 rfl (lv_at hl 0 rfl) ?_
      refine pm_get (ci := 6) (C := cn_M) (T := cf_M) (N := 23) (v := .int (nI t)) hx hb hg gu_M hown hK.2.1 hw mwP49.1 rfl 13 (by decide) (hg _ gf_M_104) (fun _ h9 => h9) rfl dd_M_test_99 ?_
      refine lv_iload_n hx hb dd_M_test_102 rfl (lv_at hl 3 rfl) ?_
      refine pm_iast (x := p3) hx hb hK.2.1 hw 0 (show P49 (ma 12) = some (.inl (ac 0, 100, .inl ((va_up (va_up mv 10 (upd (mv 10) ((nI t).toNatClampNeg) p1)) 11 (upd ((va_up mv 10 (upd (mv 10) ((nI t).toNatClampNeg) p1)) 11) ((nI t).toNatClampNeg) p2)) 12))) from mwP49.2.1 12 (by decide)) rfl (vp_in_lg (n := 100) (by decide) (nI_pos (by omega)) (su_lt1 (su_gs0 (su_nz c47)).2.2.2)) dd_M_test_103 (fun H locs hw => ?_)
      obtain ⟨P50, eP50⟩ : ∃ pmv : pm_T, pmv = pm_up P49 (ma 12) (md_a ac 12 (upd ((va_up (va_up mv 10 (upd (mv 10) ((nI t).toNatClampNeg) p1)) 11 (upd ((va_up mv 10 (upd (mv 10) ((nI t).toNatClampNeg) p1)) 11) ((nI t).toNatClampNeg) p2)) 12) ((nI t).toNatClampNeg) p3)) := ⟨_, rfl⟩
      have hw : pm_W z D cl_w (pm_up P49 (ma 12) (md_a ac 12 (upd ((va_up (va_up mv 10 (upd (mv 10) ((nI t).toNatClampNeg) p1)) 11 (upd ((va_up mv 10 (upd (mv 10) ((nI t).toNatClampNeg) p1)) 11) ((nI t).toNatClampNeg) p2)) 12) ((nI t).toNatClampNeg) p3))) s.heap H _ := hw
      rw [← eP50] at hw
      have mwP50 : md_W P50 ac h0 ma (va_up (va_up (va_up mv 10 (upd (mv 10) ((nI t).toNatClampNeg) p1)) 11 (upd ((va_up mv 10 (upd (mv 10) ((nI t).toNatClampNeg) p1)) 11) ((nI t).toNatClampNeg) p2)) 12 (upd ((va_up (va_up mv 10 (upd (mv 10) ((nI t).toNatClampNeg) p1)) 11 (upd ((va_up mv 10 (upd (mv 10) ((nI t).toNatClampNeg) p1)) 11) ((nI t).toNatClampNeg) p2)) 12) ((nI t).toNatClampNeg) p3)) (su_gs (su_in p1 0 ((nI n) - 1)) (su_an4 (su_in p2 0 99999) (su_in p3 0 2000) (su_in p4 0 20000) (su_in p5 0 2000)) (su_le p5 p3) (su_lt (nI t) 100)) (nI n) al (nI t) so := by rw [eP50]; exact md_W.put mwP49 12 (by decide)
      have mfP50 : md_F P P50 h0 ma := by rw [eP50]; exact md_F.put (by decide) mfP49
      refine lv_aload_n hx hb dd_M_test_104 rfl (lv_at hl 0 rfl) ?_
      refine pm_get (ci := 6) (C := cn_M) (T := cf_M) (N := 23) (v := .ref (ma 13)) hx hb hg gu_M hown hK.2.1 hw mwP50.1 rfl 17 (by decide) (hg _ gf_M_50) (fun _ h9 => h9) rfl dd_M_test_105 ?_
      refine lv_aload_n hx hb dd_M_test_108 rfl (lv_at hl 0 rfl) ?_
      refine pm_get (ci := 6) (C := cn_M) (T := cf_M) (N := 23) (v := .int (nI t)) hx hb hg gu_M hown hK.2.1 hw mwP50.1 rfl 13 (by decide) (hg _ gf_M_104) (fun _ h9 => h9) rfl dd_M_test_109 ?_
      refine lv_iload hx hb dd_M_test_112 (lv_at hl 4 rfl) ?_
      refine pm_iast (x := p4) hx hb hK.2.1 hw 0 (show P50 (ma 13) = some (.inl (ac 0, 100, .inl ((va_up (va_up (va_up mv 10 (upd (mv 10) ((nI t).toNatClampNeg) p1)) 11 (upd ((va_up mv 10 (upd (mv 10) ((nI t).toNatClampNeg) p1)) 11) ((nI t).toNatClampNeg) p2)) 12 (upd ((va_up (va_up mv 10 (upd (mv 10) ((nI t).toNatClampNeg) p1)) 11 (upd ((va_up mv 10 (upd (mv 10) ((nI t).toNatClampNeg) p1)) 11) ((nI t).toNatClampNeg) p2)) 12) ((nI t).toNatClampNeg) p3)) 13))) from mwP50.2.1 13 (by decide)) rfl (vp_in_lg (n := 100) (by decide) (nI_pos (by omega)) (su_lt1 (su_gs0 (su_nz c47)).2.2.2)) dd_M_test_114 (fun H locs hw => ?_)
      obtain ⟨P51, eP51⟩ : ∃ pmv : pm_T, pmv = pm_up P50 (ma 13) (md_a ac 13 (upd ((va_up (va_up (va_up mv 10 (upd (mv 10) ((nI t).toNatClampNeg) p1)) 11 (upd ((va_up mv 10 (upd (mv 10) ((nI t).toNatClampNeg) p1)) 11) ((nI t).toNatClampNeg) p2)) 12 (upd ((va_up (va_up mv 10 (upd (mv 10) ((nI t).toNatClampNeg) p1)) 11 (upd ((va_up mv 10 (upd (mv 10) ((nI t).toNatClampNeg) p1)) 11) ((nI t).toNatClampNeg) p2)) 12) ((nI t).toNatClampNeg) p3)) 13) ((nI t).toNatClampNeg) p4)) := ⟨_, rfl⟩
      have hw : pm_W z D cl_w (pm_up P50 (ma 13) (md_a ac 13 (upd ((va_up (va_up (va_up mv 10 (upd (mv 10) ((nI t).toNatClampNeg) p1)) 11 (upd ((va_up mv 10 (upd (mv 10) ((nI t).toNatClampNeg) p1)) 11) ((nI t).toNatClampNeg) p2)) 12 (upd ((va_up (va_up mv 10 (upd (mv 10) ((nI t).toNatClampNeg) p1)) 11 (upd ((va_up mv 10 (upd (mv 10) ((nI t).toNatClampNeg) p1)) 11) ((nI t).toNatClampNeg) p2)) 12) ((nI t).toNatClampNeg) p3)) 13) ((nI t).toNatClampNeg) p4))) s.heap H _ := hw
      rw [← eP51] at hw
      have mwP51 : md_W P51 ac h0 ma (va_up (va_up (va_up (va_up mv 10 (upd (mv 10) ((nI t).toNatClampNeg) p1)) 11 (upd ((va_up mv 10 (upd (mv 10) ((nI t).toNatClampNeg) p1)) 11) ((nI t).toNatClampNeg) p2)) 12 (upd ((va_up (va_up mv 10 (upd (mv 10) ((nI t).toNatClampNeg) p1)) 11 (upd ((va_up mv 10 (upd (mv 10) ((nI t).toNatClampNeg) p1)) 11) ((nI t).toNatClampNeg) p2)) 12) ((nI t).toNatClampNeg) p3)) 13 (upd ((va_up (va_up (va_up mv 10 (upd (mv 10) ((nI t).toNatClampNeg) p1)) 11 (upd ((va_up mv 10 (upd (mv 10) ((nI t).toNatClampNeg) p1)) 11) ((nI t).toNatClampNeg) p2)) 12 (upd ((va_up (va_up mv 10 (upd (mv 10) ((nI t).toNatClampNeg) p1)) 11 (upd ((va_up mv 10 (upd (mv 10) ((nI t).toNatClampNeg) p1)) 11) ((nI t).toNatClampNeg) p2)) 12) ((nI t).toNatClampNeg) p3)) 13) ((nI t).toNatClampNeg) p4)) (su_gs (su_in p1 0 ((nI n) - 1)) (su_an4 (su_in p2 0 99999) (su_in p3 0 2000) (su_in p4 0 20000) (su_in p5 0 2000)) (su_le p5 p3) (su_lt (nI t) 100)) (nI n) al (nI t) so := by rw [eP51]; exact md_W.put mwP50 13 (by decide)
      have mfP51 : md_F P P51 h0 ma := by rw [eP51]; exact md_F.put (by decide) mfP50
      refine lv_aload_n hx hb dd_M_test_115 rfl (lv_at hl 0 rfl) ?_
      refine pm_get (ci := 6) (C := cn_M) (T := cf_M) (N := 23) (v := .ref (ma 14)) hx hb hg gu_M hown hK.2.1 hw mwP51.1 rfl 18 (by decide) (hg _ gf_M_53) (fun _ h9 => h9) rfl dd_M_test_116 ?_
      refine lv_aload_n hx hb dd_M_test_119 rfl (lv_at hl 0 rfl) ?_
      refine pm_get (ci := 6) (C := cn_M) (T := cf_M) (N := 23) (v := .int (nI t)) hx hb hg gu_M hown hK.2.1 hw mwP51.1 rfl 13 (by decide) (hg _ gf_M_104) (fun _ h9 => h9) rfl dd_M_test_120 ?_
      refine lv_iload hx hb dd_M_test_123 (lv_at hl 5 rfl) ?_
      refine pm_iast (x := p5) hx hb hK.2.1 hw 0 (show P51 (ma 14) = some (.inl (ac 0, 100, .inl ((va_up (va_up (va_up (va_up mv 10 (upd (mv 10) ((nI t).toNatClampNeg) p1)) 11 (upd ((va_up mv 10 (upd (mv 10) ((nI t).toNatClampNeg) p1)) 11) ((nI t).toNatClampNeg) p2)) 12 (upd ((va_up (va_up mv 10 (upd (mv 10) ((nI t).toNatClampNeg) p1)) 11 (upd ((va_up mv 10 (upd (mv 10) ((nI t).toNatClampNeg) p1)) 11) ((nI t).toNatClampNeg) p2)) 12) ((nI t).toNatClampNeg) p3)) 13 (upd ((va_up (va_up (va_up mv 10 (upd (mv 10) ((nI t).toNatClampNeg) p1)) 11 (upd ((va_up mv 10 (upd (mv 10) ((nI t).toNatClampNeg) p1)) 11) ((nI t).toNatClampNeg) p2)) 12 (upd ((va_up (va_up mv 10 (upd (mv 10) ((nI t).toNatClampNeg) p1)) 11 (upd ((va_up mv 10 (upd (mv 10) ((nI t).toNatClampNeg) p1)) 11) ((nI t).toNatClampNeg) p2)) 12) ((nI t).toNatClampNeg) p3)) 13) ((nI t).toNatClampNeg) p4)) 14))) from mwP51.2.1 14 (by decide)) rfl (vp_in_lg (n := 100) (by decide) (nI_pos (by omega)) (su_lt1 (su_gs0 (su_nz c47)).2.2.2)) dd_M_test_125 (fun H locs hw => ?_)
      obtain ⟨P52, eP52⟩ : ∃ pmv : pm_T, pmv = pm_up P51 (ma 14) (md_a ac 14 (upd ((va_up (va_up (va_up (va_up mv 10 (upd (mv 10) ((nI t).toNatClampNeg) p1)) 11 (upd ((va_up mv 10 (upd (mv 10) ((nI t).toNatClampNeg) p1)) 11) ((nI t).toNatClampNeg) p2)) 12 (upd ((va_up (va_up mv 10 (upd (mv 10) ((nI t).toNatClampNeg) p1)) 11 (upd ((va_up mv 10 (upd (mv 10) ((nI t).toNatClampNeg) p1)) 11) ((nI t).toNatClampNeg) p2)) 12) ((nI t).toNatClampNeg) p3)) 13 (upd ((va_up (va_up (va_up mv 10 (upd (mv 10) ((nI t).toNatClampNeg) p1)) 11 (upd ((va_up mv 10 (upd (mv 10) ((nI t).toNatClampNeg) p1)) 11) ((nI t).toNatClampNeg) p2)) 12 (upd ((va_up (va_up mv 10 (upd (mv 10) ((nI t).toNatClampNeg) p1)) 11 (upd ((va_up mv 10 (upd (mv 10) ((nI t).toNatClampNeg) p1)) 11) ((nI t).toNatClampNeg) p2)) 12) ((nI t).toNatClampNeg) p3)) 13) ((nI t).toNatClampNeg) p4)) 14) ((nI t).toNatClampNeg) p5)) := ⟨_, rfl⟩
      have hw : pm_W z D cl_w (pm_up P51 (ma 14) (md_a ac 14 (upd ((va_up (va_up (va_up (va_up mv 10 (upd (mv 10) ((nI t).toNatClampNeg) p1)) 11 (upd ((va_up mv 10 (upd (mv 10) ((nI t).toNatClampNeg) p1)) 11) ((nI t).toNatClampNeg) p2)) 12 (upd ((va_up (va_up mv 10 (upd (mv 10) ((nI t).toNatClampNeg) p1)) 11 (upd ((va_up mv 10 (upd (mv 10) ((nI t).toNatClampNeg) p1)) 11) ((nI t).toNatClampNeg) p2)) 12) ((nI t).toNatClampNeg) p3)) 13 (upd ((va_up (va_up (va_up mv 10 (upd (mv 10) ((nI t).toNatClampNeg) p1)) 11 (upd ((va_up mv 10 (upd (mv 10) ((nI t).toNatClampNeg) p1)) 11) ((nI t).toNatClampNeg) p2)) 12 (upd ((va_up (va_up mv 10 (upd (mv 10) ((nI t).toNatClampNeg) p1)) 11 (upd ((va_up mv 10 (upd (mv 10) ((nI t).toNatClampNeg) p1)) 11) ((nI t).toNatClampNeg) p2)) 12) ((nI t).toNatClampNeg) p3)) 13) ((nI t).toNatClampNeg) p4)) 14) ((nI t).toNatClampNeg) p5))) s.heap H _ := hw
      rw [← eP52] at hw
      have mwP52 : md_W P52 ac h0 ma (va_up (va_up (va_up (va_up (va_up mv 10 (upd (mv 10) ((nI t).toNatClampNeg) p1)) 11 (upd ((va_up mv 10 (upd (mv 10) ((nI t).toNatClampNeg) p1)) 11) ((nI t).toNatClampNeg) p2)) 12 (upd ((va_up (va_up mv 10 (upd (mv 10) ((nI t).toNatClampNeg) p1)) 11 (upd ((va_up mv 10 (upd (mv 10) ((nI t).toNatClampNeg) p1)) 11) ((nI t).toNatClampNeg) p2)) 12) ((nI t).toNatClampNeg) p3)) 13 (upd ((va_up (va_up (va_up mv 10 (upd (mv 10) ((nI t).toNatClampNeg) p1)) 11 (upd ((va_up mv 10 (upd (mv 10) ((nI t).toNatClampNeg) p1)) 11) ((nI t).toNatClampNeg) p2)) 12 (upd ((va_up (va_up mv 10 (upd (mv 10) ((nI t).toNatClampNeg) p1)) 11 (upd ((va_up mv 10 (upd (mv 10) ((nI t).toNatClampNeg) p1)) 11) ((nI t).toNatClampNeg) p2)) 12) ((nI t).toNatClampNeg) p3)) 13) ((nI t).toNatClampNeg) p4)) 14 (upd ((va_up (va_up (va_up (va_up mv 10 (upd (mv 10) ((nI t).toNatClampNeg) p1)) 11 (upd ((va_up mv 10 (upd (mv 10) ((nI t).toNatClampNeg) p1)) 11) ((nI t).toNatClampNeg) p2)) 12 (upd ((va_up (va_up mv 10 (upd (mv 10) ((nI t).toNatClampNeg) p1)) 11 (upd ((va_up mv 10 (upd (mv 10) ((nI t).toNatClampNeg) p1)) 11) ((nI t).toNatClampNeg) p2)) 12) ((nI t).toNatClampNeg) p3)) 13 (upd ((va_up (va_up (va_up mv 10 (upd (mv 10) ((nI t).toNatClampNeg) p1)) 11 (upd ((va_up mv 10 (upd (mv 10) ((nI t).toNatClampNeg) p1)) 11) ((nI t).toNatClampNeg) p2)) 12 (upd ((va_up (va_up mv 10 (upd (mv 10) ((nI t).toNatClampNeg) p1)) 11 (upd ((va_up mv 10 (upd (mv 10) ((nI t).toNatClampNeg) p1)) 11) ((nI t).toNatClampNeg) p2)) 12) ((nI t).toNatClampNeg) p3)) 13) ((nI t).toNatClampNeg) p4)) 14) ((nI t).toNatClampNeg) p5)) (su_gs (su_in p1 0 ((nI n) - 1)) (su_an4 (su_in p2 0 99999) (su_in p3 0 2000) (su_in p4 0 20000) (su_in p5 0 2000)) (su_le p5 p3) (su_lt (nI t) 100)) (nI n) al (nI t) so := by rw [eP52]; exact md_W.put mwP51 14 (by decide)
      have mfP52 : md_F P P52 h0 ma := by rw [eP52]; exact md_F.put (by decide) mfP51
      refine lv_aload_n hx hb dd_M_test_126 rfl (lv_at hl 0 rfl) ?_
      refine lv_dup hx hb dd_M_test_127 rfl ?_
      refine pm_get (ci := 6) (C := cn_M) (T := cf_M) (N := 23) (v := .int (nI t)) hx hb hg gu_M hown hK.2.1 hw mwP52.1 rfl 13 (by decide) (hg _ gf_M_104) (fun _ h9 => h9) rfl dd_M_test_128 ?_
      refine lv_iconst (v := 1) hx hb dd_M_test_131 (by decide) ?_
      refine lv_iadd hx hb dd_M_test_132 ?_
      refine lv_topi (fun x53 ex53 => ?_)
      refine pm_put (ci := 6) (v := .int x53) (ty := .int) (C := cn_M) (T := cf_M) (N := 23) hx hb hg gu_M ct_M co_M cm_M hown hK.2.1 hw mwP52.1 rfl 13 (by decide) (hg _ gf_M_104) (fun _ h9 => h9) rfl (by decide +kernel) rfl rfl (Nat.le_of_ble_eq_true rfl) dd_M_test_133 (fun H locs hw => ?_)
      obtain ⟨P54, eP54⟩ : ∃ pmv : pm_T, pmv = pm_up P52 h0 (md_o ma (su_gs (su_in p1 0 ((nI n) - 1)) (su_an4 (su_in p2 0 99999) (su_in p3 0 2000) (su_in p4 0 20000) (su_in p5 0 2000)) (su_le p5 p3) (su_lt (nI t) 100)) (nI n) al x53 so) := ⟨_, rfl⟩
      have hw : pm_W z D cl_w (pm_up P52 h0 (md_o ma (su_gs (su_in p1 0 ((nI n) - 1)) (su_an4 (su_in p2 0 99999) (su_in p3 0 2000) (su_in p4 0 20000) (su_in p5 0 2000)) (su_le p5 p3) (su_lt (nI t) 100)) (nI n) al x53 so)) s.heap H _ := hw
      rw [← eP54] at hw
      have mwP54 : md_W P54 ac h0 ma (va_up (va_up (va_up (va_up (va_up mv 10 (upd (mv 10) ((nI t).toNatClampNeg) p1)) 11 (upd ((va_up mv 10 (upd (mv 10) ((nI t).toNatClampNeg) p1)) 11) ((nI t).toNatClampNeg) p2)) 12 (upd ((va_up (va_up mv 10 (upd (mv 10) ((nI t).toNatClampNeg) p1)) 11 (upd ((va_up mv 10 (upd (mv 10) ((nI t).toNatClampNeg) p1)) 11) ((nI t).toNatClampNeg) p2)) 12) ((nI t).toNatClampNeg) p3)) 13 (upd ((va_up (va_up (va_up mv 10 (upd (mv 10) ((nI t).toNatClampNeg) p1)) 11 (upd ((va_up mv 10 (upd (mv 10) ((nI t).toNatClampNeg) p1)) 11) ((nI t).toNatClampNeg) p2)) 12 (upd ((va_up (va_up mv 10 (upd (mv 10) ((nI t).toNatClampNeg) p1)) 11 (upd ((va_up mv 10 (upd (mv 10) ((nI t).toNatClampNeg) p1)) 11) ((nI t).toNatClampNeg) p2)) 12) ((nI t).toNatClampNeg) p3)) 13) ((nI t).toNatClampNeg) p4)) 14 (upd ((va_up (va_up (va_up (va_up mv 10 (upd (mv 10) ((nI t).toNatClampNeg) p1)) 11 (upd ((va_up mv 10 (upd (mv 10) ((nI t).toNatClampNeg) p1)) 11) ((nI t).toNatClampNeg) p2)) 12 (upd ((va_up (va_up mv 10 (upd (mv 10) ((nI t).toNatClampNeg) p1)) 11 (upd ((va_up mv 10 (upd (mv 10) ((nI t).toNatClampNeg) p1)) 11) ((nI t).toNatClampNeg) p2)) 12) ((nI t).toNatClampNeg) p3)) 13 (upd ((va_up (va_up (va_up mv 10 (upd (mv 10) ((nI t).toNatClampNeg) p1)) 11 (upd ((va_up mv 10 (upd (mv 10) ((nI t).toNatClampNeg) p1)) 11) ((nI t).toNatClampNeg) p2)) 12 (upd ((va_up (va_up mv 10 (upd (mv 10) ((nI t).toNatClampNeg) p1)) 11 (upd ((va_up mv 10 (upd (mv 10) ((nI t).toNatClampNeg) p1)) 11) ((nI t).toNatClampNeg) p2)) 12) ((nI t).toNatClampNeg) p3)) 13) ((nI t).toNatClampNeg) p4)) 14) ((nI t).toNatClampNeg) p5)) (su_gs (su_in p1 0 ((nI n) - 1)) (su_an4 (su_in p2 0 99999) (su_in p3 0 2000) (su_in p4 0 20000) (su_in p5 0 2000)) (su_le p5 p3) (su_lt (nI t) 100)) (nI n) al x53 so := by rw [eP54]; exact md_W.obj mwP52
      have mfP54 : md_F P P54 h0 ma := by rw [eP54]; exact md_F.obj mfP52
      refine lv_aload_n hx hb dd_M_test_136 rfl (lv_at hl 0 rfl) ?_
      refine pm_get (ci := 6) (C := cn_M) (T := cf_M) (N := 23) (v := .int x53) hx hb hg gu_M hown hK.2.1 hw mwP54.1 rfl 13 (by decide) (hg _ gf_M_104) (fun _ h9 => h9) rfl dd_M_test_137 ?_
      refine lv_iconst (v := 1) hx hb dd_M_test_140 (by decide) ?_
      refine lv_isub hx hb dd_M_test_141 ?_
      refine cx_iret (v := (x53 - (1 : Int32))) hx hb hr rfl hlocks hw dd_M_test_142 (by decide) (by decide) ?_
      have hcl : (nI t).toNatClampNeg = t := nI_clamp (by omega)
      rw [ex53] at mwP54
      simp only [hcl] at mwP54
      exact ⟨fun _ => ⟨by rw [ex53]; exact congrArg (fun x => some (Value.int x)) (by rw [← nI_succ, nI_pred]), mwP54⟩, fun h8 => absurd (su_nz c47) h8, mfP54⟩
    · skip
      refine lv_iconst (v := 0) hx hb dd_M_test_72 (by decide) ?_
      refine cx_iret (v := (0 : Int32)) hx hb hr rfl hlocks hw dd_M_test_73 (by decide) (by decide) ?_
      exact ⟨fun h8 => absurd h8 (su_iz c47), fun _ => ⟨rfl, mwP46⟩, mfP46⟩
  have j52 : ∀ (H : Heap) (locs : List Loc) (ls : Array Slot), pm_W z D cl_w P s.heap H locs → lv_has ls 6 [(0, .ref h0), (1, .int p1), (2, .int p2), (3, .int p3), (4, .int p4), (5, .int p5)] → W p l e ({ frames := 3, cells := 0, slots := 0, locals := 70 } : Room) s m ([.ref h0, .int p1, .int p2, .int p3, .int p4, .int p5] : List Value).toArray below meth c H locs 0 0 (MQ below (cx_Q z D (fun v P' => ((su_gs (su_in p1 0 (nI n - 1)) (su_an4 (su_in p2 0 99999) (su_in p3 0 2000) (su_in p4 0 20000) (su_in p5 0 2000)) (su_le p5 p3) (su_lt (nI t) 100)) = 0 → v = some (.int (nI t)) ∧ md_W P' ac h0 ma (va_up (va_up (va_up (va_up (va_up mv 10 (upd (mv 10) t p1)) 11 (upd (mv 11) t p2)) 12 (upd (mv 12) t p3)) 13 (upd (mv 13) t p4)) 14 (upd (mv 14) t p5)) (su_gs (su_in p1 0 (nI n - 1)) (su_an4 (su_in p2 0 99999) (su_in p3 0 2000) (su_in p4 0 20000) (su_in p5 0 2000)) (su_le p5 p3) (su_lt (nI t) 100)) (nI n) al (nI t + 1) so) ∧ (¬ (su_gs (su_in p1 0 (nI n - 1)) (su_an4 (su_in p2 0 99999) (su_in p3 0 2000) (su_in p4 0 20000) (su_in p5 0 2000)) (su_le p5 p3) (su_lt (nI t) 100)) = 0 → v = some (.int 0) ∧ md_W P' ac h0 ma mv (su_gs (su_in p1 0 (nI n - 1)) (su_an4 (su_in p2 0 99999) (su_in p3 0 2000) (su_in p4 0 20000) (su_in p5 0 2000)) (su_le p5 p3) (su_lt (nI t) 100)) (nI n) al (nI t) so) ∧ md_F P P' h0 ma)) ([.ref h0, .int p1, .int p2, .int p3, .int p4, .int p5] : List Value).toArray s ({ frames := 3, cells := 0, slots := 0, locals := 70 } : Room).cells ({ frames := 3, cells := 0, slots := 0, locals := 70 } : Room).slots (pm_A z)) (F0 m 52 ls [.int (su_le p5 p3), .int (su_an4 (su_in p2 0 99999) (su_in p3 0 2000) (su_in p4 0 20000) (su_in p5 0 2000)), .int (su_in p1 0 ((nI n) - 1)), .ref h0]) := by
    intro H locs ls hw hl
    refine lv_aload_n hx hb dd_M_test_52 rfl (lv_at hl 0 rfl) ?_
    refine pm_get (ci := 6) (C := cn_M) (T := cf_M) (N := 23) (v := .int (nI t)) hx hb hg gu_M hown hK.2.1 hw mw.1 rfl 13 (by decide) (hg _ gf_M_104) (fun _ h9 => h9) rfl dd_M_test_53 ?_
    refine lv_bipush (v := 100) hx hb dd_M_test_56 (by decide) ?_
    refine lv_icmp_ge (tgt := 65) hx hb dd_M_test_58 (by decide) (fun c55 => ?_) (fun c55 => ?_)
    · skip
      refine lv_iconst (v := 0) hx hb dd_M_test_65 (by decide) ?_
      refine W.eq (g2 := F0 m 66 ls [.int (su_lt (nI t) 100), .int (su_le p5 p3), .int (su_an4 (su_in p2 0 99999) (su_in p3 0 2000) (su_in p4 0 20000) (su_in p5 0 2000)), .int (su_in p1 0 ((nI n) - 1)), .ref h0]) (by rw [show (su_lt (nI t) 100) = (0 : Int32) from by rw [su_lt, if_pos c55]]) ?_
      exact j66 _ _ ls hw (lv_sub hl [0, 1, 2, 3, 4, 5] rfl)
    · skip
      refine lv_iconst (v := 1) hx hb dd_M_test_61 (by decide) ?_
      refine lv_goto (tgt := 66) hx hb dd_M_test_62 (by decide) ?_
      refine W.eq (g2 := F0 m 66 ls [.int (su_lt (nI t) 100), .int (su_le p5 p3), .int (su_an4 (su_in p2 0 99999) (su_in p3 0 2000) (su_in p4 0 20000) (su_in p5 0 2000)), .int (su_in p1 0 ((nI n) - 1)), .ref h0]) (by rw [show (su_lt (nI t) 100) = (1 : Int32) from by rw [su_lt, if_neg c55]]) ?_
      exact j66 _ _ ls hw (lv_sub hl [0, 1, 2, 3, 4, 5] rfl)
  have j41 : ∀ (H : Heap) (locs : List Loc) (ls : Array Slot), pm_W z D cl_w P s.heap H locs → lv_has ls 6 [(0, .ref h0), (1, .int p1), (2, .int p2), (3, .int p3), (4, .int p4), (5, .int p5)] → W p l e ({ frames := 3, cells := 0, slots := 0, locals := 70 } : Room) s m ([.ref h0, .int p1, .int p2, .int p3, .int p4, .int p5] : List Value).toArray below meth c H locs 0 0 (MQ below (cx_Q z D (fun v P' => ((su_gs (su_in p1 0 (nI n - 1)) (su_an4 (su_in p2 0 99999) (su_in p3 0 2000) (su_in p4 0 20000) (su_in p5 0 2000)) (su_le p5 p3) (su_lt (nI t) 100)) = 0 → v = some (.int (nI t)) ∧ md_W P' ac h0 ma (va_up (va_up (va_up (va_up (va_up mv 10 (upd (mv 10) t p1)) 11 (upd (mv 11) t p2)) 12 (upd (mv 12) t p3)) 13 (upd (mv 13) t p4)) 14 (upd (mv 14) t p5)) (su_gs (su_in p1 0 (nI n - 1)) (su_an4 (su_in p2 0 99999) (su_in p3 0 2000) (su_in p4 0 20000) (su_in p5 0 2000)) (su_le p5 p3) (su_lt (nI t) 100)) (nI n) al (nI t + 1) so) ∧ (¬ (su_gs (su_in p1 0 (nI n - 1)) (su_an4 (su_in p2 0 99999) (su_in p3 0 2000) (su_in p4 0 20000) (su_in p5 0 2000)) (su_le p5 p3) (su_lt (nI t) 100)) = 0 → v = some (.int 0) ∧ md_W P' ac h0 ma mv (su_gs (su_in p1 0 (nI n - 1)) (su_an4 (su_in p2 0 99999) (su_in p3 0 2000) (su_in p4 0 20000) (su_in p5 0 2000)) (su_le p5 p3) (su_lt (nI t) 100)) (nI n) al (nI t) so) ∧ md_F P P' h0 ma)) ([.ref h0, .int p1, .int p2, .int p3, .int p4, .int p5] : List Value).toArray s ({ frames := 3, cells := 0, slots := 0, locals := 70 } : Room).cells ({ frames := 3, cells := 0, slots := 0, locals := 70 } : Room).slots (pm_A z)) (F0 m 41 ls [.int (su_an4 (su_in p2 0 99999) (su_in p3 0 2000) (su_in p4 0 20000) (su_in p5 0 2000)), .int (su_in p1 0 ((nI n) - 1)), .ref h0]) := by
    intro H locs ls hw hl
    refine lv_iload hx hb dd_M_test_41 (lv_at hl 5 rfl) ?_
    refine lv_iload_n hx hb dd_M_test_43 rfl (lv_at hl 3 rfl) ?_
    refine lv_icmp_gt (tgt := 51) hx hb dd_M_test_44 (by decide) (fun c56 => ?_) (fun c56 => ?_)
    · skip
      refine lv_iconst (v := 0) hx hb dd_M_test_51 (by decide) ?_
      refine W.eq (g2 := F0 m 52 ls [.int (su_le p5 p3), .int (su_an4 (su_in p2 0 99999) (su_in p3 0 2000) (su_in p4 0 20000) (su_in p5 0 2000)), .int (su_in p1 0 ((nI n) - 1)), .ref h0]) (by rw [show (su_le p5 p3) = (0 : Int32) from by rw [su_le, if_pos c56]]) ?_
      exact j52 _ _ ls hw (lv_sub hl [0, 1, 2, 3, 4, 5] rfl)
    · skip
      refine lv_iconst (v := 1) hx hb dd_M_test_47 (by decide) ?_
      refine lv_goto (tgt := 52) hx hb dd_M_test_48 (by decide) ?_
      refine W.eq (g2 := F0 m 52 ls [.int (su_le p5 p3), .int (su_an4 (su_in p2 0 99999) (su_in p3 0 2000) (su_in p4 0 20000) (su_in p5 0 2000)), .int (su_in p1 0 ((nI n) - 1)), .ref h0]) (by rw [show (su_le p5 p3) = (1 : Int32) from by rw [su_le, if_neg c56]]) ?_
      exact j52 _ _ ls hw (lv_sub hl [0, 1, 2, 3, 4, 5] rfl)
  refine lv_aload_n hx hb dd_M_test_0 rfl (lv_at hl 0 rfl) ?_
  refine lv_aload_n hx hb dd_M_test_1 rfl (lv_at hl 0 rfl) ?_
  refine lv_iload_n hx hb dd_M_test_2 rfl (lv_at hl 1 rfl) ?_
  refine cx_after (cx_rV (n := 1) (As := [.int p1]) (rest := [.ref h0]) ⟨hx, hb, hml, hown, hg⟩ (c_M_isHydrant l z D ac sa P h0 ma mv th (nI n) al (nI t) so p1 mw) (cx_gv gm_M_95 gi_M_isHydrant gs_M_isHydrant gn_M gc_M_isHydrant) (by decide +kernel) ⟨by decide, by decide⟩ hK hw mw.1 rfl rfl hl.1 rfl (Nat.le_of_ble_eq_true rfl) dd_M_test_3 ⟨by decide, by decide⟩) hw (fun v9 P9 H locs hp hw => ?_)
  obtain ⟨rfl, e9⟩ := hp
  rw [e9] at hw
  clear e9 P9
  refine W.eq (g2 := F0 m 6 ls [.int (su_in p1 0 ((nI n) - 1)), .ref h0]) rfl ?_
  refine lv_iload_n hx hb dd_M_test_6 rfl (lv_at hl 2 rfl) ?_
  refine cx_after (cx_rS (n := 1) (As := [.int p2]) (rest := [.int (su_in p1 0 ((nI n) - 1)), .ref h0]) ⟨hx, hb, hml, hown, hg⟩ (c_M_isDay l z D ac sa P p2) (cx_gs gm_M_98 gt_M_isDay gn_M gc_M_isDay) (by decide +kernel) ⟨by decide, by decide⟩ hK hw rfl hl.1 rfl (Nat.le_of_ble_eq_true rfl) dd_M_test_7 ⟨by decide, by decide⟩) hw (fun v9 P9 H locs hp hw => ?_)
  obtain ⟨rfl, e9⟩ := hp
  rw [e9] at hw
  clear e9 P9
  refine W.eq (g2 := F0 m 10 ls [.int (su_in p2 0 99999), .int (su_in p1 0 ((nI n) - 1)), .ref h0]) rfl ?_
  refine lv_if_eq (tgt := 40) hx hb dd_M_test_10 (by decide) (fun c57 => ?_) (fun c57 => ?_)
  · skip
    refine lv_iconst (v := 0) hx hb dd_M_test_40 (by decide) ?_
    refine W.eq (g2 := F0 m 41 ls [.int (su_an4 (su_in p2 0 99999) (su_in p3 0 2000) (su_in p4 0 20000) (su_in p5 0 2000)), .int (su_in p1 0 ((nI n) - 1)), .ref h0]) (by rw [show (su_an4 (su_in p2 0 99999) (su_in p3 0 2000) (su_in p4 0 20000) (su_in p5 0 2000)) = (0 : Int32) from by rw [su_an4, if_pos c57]]) ?_
    exact j41 _ _ ls hw (lv_sub hl [0, 1, 2, 3, 4, 5] rfl)
  · skip
    refine lv_iload_n hx hb dd_M_test_13 rfl (lv_at hl 3 rfl) ?_
    refine cx_after (cx_rS (n := 1) (As := [.int p3]) (rest := [.int (su_in p1 0 ((nI n) - 1)), .ref h0]) ⟨hx, hb, hml, hown, hg⟩ (c_M_isPressure l z D ac sa P p3) (cx_gs gm_M_101 gt_M_isPressure gn_M gc_M_isPressure) (by decide +kernel) ⟨by decide, by decide⟩ hK hw rfl hl.1 rfl (Nat.le_of_ble_eq_true rfl) dd_M_test_14 ⟨by decide, by decide⟩) hw (fun v9 P9 H locs hp hw => ?_)
    obtain ⟨rfl, e9⟩ := hp
    rw [e9] at hw
    clear e9 P9
    refine W.eq (g2 := F0 m 17 ls [.int (su_in p3 0 2000), .int (su_in p1 0 ((nI n) - 1)), .ref h0]) rfl ?_
    refine lv_if_eq (tgt := 40) hx hb dd_M_test_17 (by decide) (fun c58 => ?_) (fun c58 => ?_)
    · skip
      refine lv_iconst (v := 0) hx hb dd_M_test_40 (by decide) ?_
      refine W.eq (g2 := F0 m 41 ls [.int (su_an4 (su_in p2 0 99999) (su_in p3 0 2000) (su_in p4 0 20000) (su_in p5 0 2000)), .int (su_in p1 0 ((nI n) - 1)), .ref h0]) (by rw [show (su_an4 (su_in p2 0 99999) (su_in p3 0 2000) (su_in p4 0 20000) (su_in p5 0 2000)) = (0 : Int32) from by rw [su_an4, if_neg c57, if_pos c58]]) ?_
      exact j41 _ _ ls hw (lv_sub hl [0, 1, 2, 3, 4, 5] rfl)
    · skip
      refine lv_iload hx hb dd_M_test_20 (lv_at hl 4 rfl) ?_
      refine cx_after (cx_rS (n := 1) (As := [.int p4]) (rest := [.int (su_in p1 0 ((nI n) - 1)), .ref h0]) ⟨hx, hb, hml, hown, hg⟩ (c_M_isFlow l z D ac sa P p4) (cx_gs gm_M_87 gt_M_isFlow gn_M gc_M_isFlow) (by decide +kernel) ⟨by decide, by decide⟩ hK hw rfl hl.1 rfl (Nat.le_of_ble_eq_true rfl) dd_M_test_22 ⟨by decide, by decide⟩) hw (fun v9 P9 H locs hp hw => ?_)
      obtain ⟨rfl, e9⟩ := hp
      rw [e9] at hw
      clear e9 P9
      refine W.eq (g2 := F0 m 25 ls [.int (su_in p4 0 20000), .int (su_in p1 0 ((nI n) - 1)), .ref h0]) rfl ?_
      refine lv_if_eq (tgt := 40) hx hb dd_M_test_25 (by decide) (fun c59 => ?_) (fun c59 => ?_)
      · skip
        refine lv_iconst (v := 0) hx hb dd_M_test_40 (by decide) ?_
        refine W.eq (g2 := F0 m 41 ls [.int (su_an4 (su_in p2 0 99999) (su_in p3 0 2000) (su_in p4 0 20000) (su_in p5 0 2000)), .int (su_in p1 0 ((nI n) - 1)), .ref h0]) (by rw [show (su_an4 (su_in p2 0 99999) (su_in p3 0 2000) (su_in p4 0 20000) (su_in p5 0 2000)) = (0 : Int32) from by rw [su_an4, if_neg c57, if_neg c58, if_pos c59]]) ?_
        exact j41 _ _ ls hw (lv_sub hl [0, 1, 2, 3, 4, 5] rfl)
      · skip
        refine lv_iload hx hb dd_M_test_28 (lv_at hl 5 rfl) ?_
        refine cx_after (cx_rS (n := 1) (As := [.int p5]) (rest := [.int (su_in p1 0 ((nI n) - 1)), .ref h0]) ⟨hx, hb, hml, hown, hg⟩ (c_M_isPressure l z D ac sa P p5) (cx_gs gm_M_101 gt_M_isPressure gn_M gc_M_isPressure) (by decide +kernel) ⟨by decide, by decide⟩ hK hw rfl hl.1 rfl (Nat.le_of_ble_eq_true rfl) dd_M_test_30 ⟨by decide, by decide⟩) hw (fun v9 P9 H locs hp hw => ?_)
        obtain ⟨rfl, e9⟩ := hp
        rw [e9] at hw
        clear e9 P9
        refine W.eq (g2 := F0 m 33 ls [.int (su_in p5 0 2000), .int (su_in p1 0 ((nI n) - 1)), .ref h0]) rfl ?_
        refine lv_if_eq (tgt := 40) hx hb dd_M_test_33 (by decide) (fun c60 => ?_) (fun c60 => ?_)
        · skip
          refine lv_iconst (v := 0) hx hb dd_M_test_40 (by decide) ?_
          refine W.eq (g2 := F0 m 41 ls [.int (su_an4 (su_in p2 0 99999) (su_in p3 0 2000) (su_in p4 0 20000) (su_in p5 0 2000)), .int (su_in p1 0 ((nI n) - 1)), .ref h0]) (by rw [show (su_an4 (su_in p2 0 99999) (su_in p3 0 2000) (su_in p4 0 20000) (su_in p5 0 2000)) = (0 : Int32) from by rw [su_an4, if_neg c57, if_neg c58, if_neg c59, if_pos c60]]) ?_
          exact j41 _ _ ls hw (lv_sub hl [0, 1, 2, 3, 4, 5] rfl)
        · skip
          refine lv_iconst (v := 1) hx hb dd_M_test_36 (by decide) ?_
          refine lv_goto (tgt := 41) hx hb dd_M_test_37 (by decide) ?_
          refine W.eq (g2 := F0 m 41 ls [.int (su_an4 (su_in p2 0 99999) (su_in p3 0 2000) (su_in p4 0 20000) (su_in p5 0 2000)), .int (su_in p1 0 ((nI n) - 1)), .ref h0]) (by rw [show (su_an4 (su_in p2 0 99999) (su_in p3 0 2000) (su_in p4 0 20000) (su_in p5 0 2000)) = (1 : Int32) from by rw [su_an4, if_neg c57, if_neg c58, if_neg c59, if_neg c60]]) ?_
          exact j41 _ _ ls hw (lv_sub hl [0, 1, 2, 3, 4, 5] rfl)

set_option maxHeartbeats 4000000 in
set_option maxRecDepth 100000 in
theorem c_M_defect (l : Launch) (z : Nat) (D : va_G) (ac : Nat → ClassId) (sa : Nat → Nat) (P : pm_T) (h0 : Nat) (ma : Nat → Nat) (mv : Nat → Nat → Int32) (th al so : Int32) (n t : Nat) (hn40 : n ≤ 40) (ht100 : t ≤ 100) (p1 p2 : Int32) (mw : md_W P ac h0 ma mv th (nI n) al (nI t) so)  : cx_M l yy_M_defect bb_M_defect 3 none ({ frames := 3, cells := 0, slots := 0, locals := 70 } : Room) z D ac sa P [.ref h0, .int p1, .int p2] (fun v P' => ((su_gs (su_in p1 0 (nI n - 1)) (su_in p2 0 2) 1 1) = 0 → v = none ∧ md_W P' ac h0 ma (va_up mv 4 (upd (mv 4) p1.toNatClampNeg p2)) (su_gs (su_in p1 0 (nI n - 1)) (su_in p2 0 2) 1 1) (nI n) al (nI t) so) ∧ (¬ (su_gs (su_in p1 0 (nI n - 1)) (su_in p2 0 2) 1 1) = 0 → v = none ∧ md_W P' ac h0 ma mv (su_gs (su_in p1 0 (nI n - 1)) (su_in p2 0 2) 1 1) (nI n) al (nI t) so) ∧ md_F P P' h0 ma) := by
  refine cx_ofM (by decide) (Nat.le_of_ble_eq_true rfl) (fun p e s m below meth c ls hx hb hr hml hg hown hlocks hin hK hw hl => ?_)
  have hl : lv_has ls 3 [(0, .ref h0), (1, .int p1), (2, .int p2)] := hl
  have hown : s.vm.findClass cn_M = some m.cls := hown
  refine lv_aload_n hx hb dd_M_defect_0 rfl (lv_at hl 0 rfl) ?_
  refine lv_aload_n hx hb dd_M_defect_1 rfl (lv_at hl 0 rfl) ?_
  refine lv_iload_n hx hb dd_M_defect_2 rfl (lv_at hl 1 rfl) ?_
  refine cx_after (cx_rV (n := 1) (As := [.int p1]) (rest := [.ref h0]) ⟨hx, hb, hml, hown, hg⟩ (c_M_isHydrant l z D ac sa P h0 ma mv th (nI n) al (nI t) so p1 mw) (cx_gv gm_M_95 gi_M_isHydrant gs_M_isHydrant gn_M gc_M_isHydrant) (by decide +kernel) ⟨by decide, by decide⟩ hK hw mw.1 rfl rfl hl.1 rfl (Nat.le_of_ble_eq_true rfl) dd_M_defect_3 ⟨by decide, by decide⟩) hw (fun v9 P9 H locs hp hw => ?_)
  obtain ⟨rfl, e9⟩ := hp
  rw [e9] at hw
  clear e9 P9
  refine W.eq (g2 := F0 m 6 ls [.int (su_in p1 0 ((nI n) - 1)), .ref h0]) rfl ?_
  refine lv_iload_n hx hb dd_M_defect_6 rfl (lv_at hl 2 rfl) ?_
  refine lv_iconst (v := 0) hx hb dd_M_defect_7 (by decide) ?_
  refine lv_iconst (v := 2) hx hb dd_M_defect_8 (by decide) ?_
  refine cx_after (cx_rS (n := 3) (As := [.int p2, .int (0 : Int32), .int (2 : Int32)]) (rest := [.int (su_in p1 0 ((nI n) - 1)), .ref h0]) ⟨hx, hb, hml, hown, hg⟩ (c_M_in l z D ac sa P p2 (0 : Int32) (2 : Int32)) (cx_gs gm_M_72 gt_M_in gn_M gc_M_in) (by decide +kernel) ⟨by decide, by decide⟩ hK hw rfl hl.1 rfl (Nat.le_of_ble_eq_true rfl) dd_M_defect_9 ⟨by decide, by decide⟩) hw (fun v9 P9 H locs hp hw => ?_)
  obtain ⟨rfl, e9⟩ := hp
  rw [e9] at hw
  clear e9 P9
  refine W.eq (g2 := F0 m 12 ls [.int (su_in p2 (0 : Int32) (2 : Int32)), .int (su_in p1 0 ((nI n) - 1)), .ref h0]) rfl ?_
  refine lv_iconst (v := 1) hx hb dd_M_defect_12 (by decide) ?_
  refine lv_iconst (v := 1) hx hb dd_M_defect_13 (by decide) ?_
  refine cx_after (cx_rV (n := 4) (As := [.int (su_in p1 0 ((nI n) - 1)), .int (su_in p2 (0 : Int32) (2 : Int32)), .int (1 : Int32), .int (1 : Int32)]) (rest := []) ⟨hx, hb, hml, hown, hg⟩ (c_M_goes l z D ac sa P h0 ma mv th (nI n) al (nI t) so (su_in p1 0 ((nI n) - 1)) (su_in p2 (0 : Int32) (2 : Int32)) (1 : Int32) (1 : Int32) mw) (cx_gv gm_M_83 gi_M_goes gs_M_goes gn_M gc_M_goes) (by decide +kernel) ⟨by decide, by decide⟩ hK hw mw.1 rfl rfl hl.1 rfl (Nat.le_of_ble_eq_true rfl) dd_M_defect_14 ⟨by decide, by decide⟩) hw (fun v9 P9 H locs hp hw => ?_)
  obtain ⟨rfl, e9⟩ := hp
  rw [e9] at hw
  clear e9 P9
  refine W.eq (g2 := F0 m 17 ls [.int (if (su_gs (su_in p1 0 ((nI n) - 1)) (su_in p2 (0 : Int32) (2 : Int32)) (1 : Int32) (1 : Int32)) = 0 then 1 else 0)]) rfl ?_
  obtain ⟨P31, eP31⟩ : ∃ pmv : pm_T, pmv = pm_up P h0 (md_o ma (su_gs (su_in p1 0 ((nI n) - 1)) (su_in p2 (0 : Int32) (2 : Int32)) (1 : Int32) (1 : Int32)) (nI n) al (nI t) so) := ⟨_, rfl⟩
  have hw : pm_W z D cl_w (pm_up P h0 (md_o ma (su_gs (su_in p1 0 ((nI n) - 1)) (su_in p2 (0 : Int32) (2 : Int32)) (1 : Int32) (1 : Int32)) (nI n) al (nI t) so)) s.heap H _ := hw
  rw [← eP31] at hw
  have mwP31 : md_W P31 ac h0 ma mv (su_gs (su_in p1 0 ((nI n) - 1)) (su_in p2 (0 : Int32) (2 : Int32)) (1 : Int32) (1 : Int32)) (nI n) al (nI t) so := by rw [eP31]; exact md_W.obj mw
  have mfP31 : md_F P P31 h0 ma := by rw [eP31]; exact md_F.obj md_F.rf
  refine lv_if_eq (tgt := 27) hx hb dd_M_defect_17 (by decide) (fun c32 => ?_) (fun c32 => ?_)
  · skip
    refine cx_vret hx hb hr hlocks hw dd_M_defect_27 (by decide) (by decide) ?_
    exact ⟨fun h8 => absurd h8 (su_iz c32), fun _ => ⟨rfl, mwP31⟩, mfP31⟩
  · skip
    refine lv_aload_n hx hb dd_M_defect_20 rfl (lv_at hl 0 rfl) ?_
    refine pm_get (ci := 6) (C := cn_M) (T := cf_M) (N := 23) (v := .ref (ma 4)) hx hb hg gu_M hown hK.2.1 hw mwP31.1 rfl 6 (by decide) (hg _ gf_M_22) (fun _ h9 => h9) rfl dd_M_defect_21 ?_
    refine lv_iload_n hx hb dd_M_defect_24 rfl (lv_at hl 1 rfl) ?_
    refine lv_iload_n hx hb dd_M_defect_25 rfl (lv_at hl 2 rfl) ?_
    refine pm_iast (x := p2) hx hb hK.2.1 hw 0 (show P31 (ma 4) = some (.inl (ac 0, 40, .inl (mv 4))) from mwP31.2.1 4 (by decide)) rfl (by obtain ⟨j, hj, e8⟩ := su_hin hn40 (su_gs0 (su_nz c32)).1; rw [e8]; exact vp_in_nI (by omega) (by decide)) dd_M_defect_26 (fun H locs hw => ?_)
    obtain ⟨P33, eP33⟩ : ∃ pmv : pm_T, pmv = pm_up P31 (ma 4) (md_a ac 4 (upd (mv 4) p1.toNatClampNeg p2)) := ⟨_, rfl⟩
    have hw : pm_W z D cl_w (pm_up P31 (ma 4) (md_a ac 4 (upd (mv 4) p1.toNatClampNeg p2))) s.heap H _ := hw
    rw [← eP33] at hw
    have mwP33 : md_W P33 ac h0 ma (va_up mv 4 (upd (mv 4) p1.toNatClampNeg p2)) (su_gs (su_in p1 0 ((nI n) - 1)) (su_in p2 (0 : Int32) (2 : Int32)) (1 : Int32) (1 : Int32)) (nI n) al (nI t) so := by rw [eP33]; exact md_W.put mwP31 4 (by decide)
    have mfP33 : md_F P P33 h0 ma := by rw [eP33]; exact md_F.put (by decide) mfP31
    refine cx_vret hx hb hr hlocks hw dd_M_defect_27 (by decide) (by decide) ?_
    exact ⟨fun _ => ⟨rfl, mwP33⟩, fun h8 => absurd (su_nz c32) h8, mfP33⟩
