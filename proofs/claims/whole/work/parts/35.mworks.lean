set_option maxHeartbeats 4000000 in
set_option maxRecDepth 100000 in
theorem c_M_sortA (l : Launch) (z : Nat) (D : va_G) (ac : Nat → ClassId) (sa : Nat → Nat) (P : pm_T) (h0 : Nat) (ma : Nat → Nat) (mv : Nat → Nat → Int32) (th al so : Int32) (n t : Nat) (hn40 : n ≤ 40) (ht100 : t ≤ 100) (p1 : Int32) (hA : su_in p1 0 (nI n - 1) = 0) (mw : md_W P ac h0 ma mv th (nI n) al (nI t) so)  : cx_M l yy_M_sort bb_M_sort 4 (some .int) ({ frames := 3, cells := 0, slots := 0, locals := 90 } : Room) z D ac sa P [.ref h0, .int p1] (fun v P' => v = some (.int 0) ∧ md_W P' ac h0 ma mv 1 (nI n) al (nI t) so ∧ md_F P P' h0 ma) := by
  refine cx_ofM (by decide) (Nat.le_of_ble_eq_true rfl) (fun p e s m below meth c ls hx hb hr hml hg hown hlocks hin hK hw hl => ?_)
  have hl : lv_has ls 4 [(0, .ref h0), (1, .int p1)] := hl
  have hown : s.vm.findClass cn_M = some m.cls := hown
  refine lv_aload_n hx hb dd_M_sort_0 rfl (lv_at hl 0 rfl) ?_
  refine lv_iload_n hx hb dd_M_sort_1 rfl (lv_at hl 1 rfl) ?_
  refine cx_after (cx_rV (n := 1) (As := [.int p1]) (rest := []) ⟨hx, hb, hml, hown, hg⟩ (c_M_isHydrant l z D ac sa P h0 ma mv th (nI n) al (nI t) so p1 mw) (cx_gv gm_M_95 gi_M_isHydrant gs_M_isHydrant gn_M gc_M_isHydrant) (by decide +kernel) ⟨by decide, by decide⟩ hK hw mw.1 rfl rfl hl.1 rfl (Nat.le_of_ble_eq_true rfl) dd_M_sort_2 ⟨by decide, by decide⟩) hw (fun v9 P9 H locs hp hw => ?_)
  obtain ⟨rfl, e9⟩ := hp
  rw [e9] at hw
  clear e9 P9
  refine W.eq (g2 := F0 m 5 ls [.int (su_in p1 0 ((nI n) - 1))]) rfl ?_
  refine W.eq (g2 := F0 m 5 ls [.int (0 : Int32)]) (by rw [show (su_in p1 0 ((nI n) - 1)) = (0 : Int32) from hA]) ?_
  refine lv_if_eq (tgt := 16) hx hb dd_M_sort_5 (by decide) (fun c31 => ?_) (fun c31 => absurd (by decide) c31)
  refine lv_iconst (v := (-1)) hx hb dd_M_sort_16 (by decide) ?_
  refine lv_istore_n (lv' := [(2, .int (-1 : Int32)), (0, .ref h0), (1, .int p1)]) hx hb dd_M_sort_17 rfl hl (by decide) rfl (fun ls hl => ?_)
  refine lv_aload_n hx hb dd_M_sort_18 rfl (lv_at hl 1 rfl) ?_
  refine lv_aload_n hx hb dd_M_sort_19 rfl (lv_at hl 1 rfl) ?_
  refine lv_iload_n hx hb dd_M_sort_20 rfl (lv_at hl 2 rfl) ?_
  refine cx_after (cx_rV (n := 1) (As := [.int p1]) (rest := [.ref h0]) ⟨hx, hb, hml, hown, hg⟩ (c_M_isHydrant l z D ac sa P h0 ma mv th (nI n) al (nI t) so p1 mw) (cx_gv gm_M_95 gi_M_isHydrant gs_M_isHydrant gn_M gc_M_isHydrant) (by decide +kernel) ⟨by decide, by decide⟩ hK hw mw.1 rfl rfl hl.1 rfl (Nat.le_of_ble_eq_true rfl) dd_M_sort_21 ⟨by decide, by decide⟩) hw (fun v9 P9 H locs hp hw => ?_)
  obtain ⟨rfl, e9⟩ := hp
  rw [e9] at hw
  clear e9 P9
  refine W.eq (g2 := F0 m 24 ls [.int (su_in p1 0 ((nI n) - 1)), .ref h0]) rfl ?_
  refine W.eq (g2 := F0 m 24 ls [.int (0 : Int32), .ref h0]) (by rw [show (su_in p1 0 ((nI n) - 1)) = (0 : Int32) from hA]) ?_
  refine lv_iload_n hx hb dd_M_sort_24 rfl (lv_at hl 0 rfl) ?_
  refine lv_if_lt (tgt := 32) hx hb dd_M_sort_25 (by decide) (fun c32 => ?_) (fun c32 => absurd (by decide) c32)
  refine lv_iconst (v := 0) hx hb dd_M_sort_32 (by decide) ?_
  refine lv_iload_n hx hb dd_M_sort_33 rfl (lv_at hl 0 rfl) ?_
  refine lv_if_lt (tgt := 52) hx hb dd_M_sort_34 (by decide) (fun c33 => ?_) (fun c33 => absurd (by decide) c33)
  refine lv_iconst (v := 0) hx hb dd_M_sort_52 (by decide) ?_
  refine lv_iconst (v := 1) hx hb dd_M_sort_53 (by decide) ?_
  refine cx_after (cx_rV (n := 4) (As := [.int (0 : Int32), .int (0 : Int32), .int (0 : Int32), .int (1 : Int32)]) (rest := []) ⟨hx, hb, hml, hown, hg⟩ (c_M_goes l z D ac sa P h0 ma mv th (nI n) al (nI t) so (0 : Int32) (0 : Int32) (0 : Int32) (1 : Int32) mw) (cx_gv gm_M_83 gi_M_goes gs_M_goes gn_M gc_M_goes) (by decide +kernel) ⟨by decide, by decide⟩ hK hw mw.1 rfl rfl hl.1 rfl (Nat.le_of_ble_eq_true rfl) dd_M_sort_54 ⟨by decide, by decide⟩) hw (fun v9 P9 H locs hp hw => ?_)
  obtain ⟨rfl, e9⟩ := hp
  rw [e9] at hw
  clear e9 P9
  refine W.eq (g2 := F0 m 57 ls [.int (if (su_gs (0 : Int32) (0 : Int32) (0 : Int32) (1 : Int32)) = 0 then 1 else 0)]) rfl ?_
  obtain ⟨P34, eP34⟩ : ∃ pmv : pm_T, pmv = pm_up P h0 (md_o ma (su_gs (0 : Int32) (0 : Int32) (0 : Int32) (1 : Int32)) (nI n) al (nI t) so) := ⟨_, rfl⟩
  have hw : pm_W z D cl_w (pm_up P h0 (md_o ma (su_gs (0 : Int32) (0 : Int32) (0 : Int32) (1 : Int32)) (nI n) al (nI t) so)) s.heap H _ := hw
  rw [← eP34] at hw
  have mwP34 : md_W P34 ac h0 ma mv (su_gs (0 : Int32) (0 : Int32) (0 : Int32) (1 : Int32)) (nI n) al (nI t) so := by rw [eP34]; exact md_W.obj mw
  have mfP34 : md_F P P34 h0 ma := by rw [eP34]; exact md_F.obj md_F.rf
  refine W.eq (g2 := F0 m 57 ls [.int (0 : Int32)]) (by rw [show (if (su_gs (0 : Int32) (0 : Int32) (0 : Int32) (1 : Int32)) = 0 then 1 else 0) = (0 : Int32) from if_neg (fun h8 => (su_gs0 h8).1 rfl)]) ?_
  refine lv_if_ne (tgt := 62) hx hb dd_M_sort_57 (by decide) (fun c35 => absurd (by decide) c35) (fun c35 => ?_)
  refine lv_iconst (v := 0) hx hb dd_M_sort_60 (by decide) ?_
  refine cx_iret (v := (0 : Int32)) hx hb hr rfl hlocks hw dd_M_sort_61 (by decide) (by decide) ?_
  exact ⟨rfl, by have h7 := mwP34; rw [show (su_gs (0 : Int32) (0 : Int32) (0 : Int32) (1 : Int32)) = 1 from by simp [su_gs]] at h7; exact h7, mfP34⟩

set_option maxHeartbeats 4000000 in
set_option maxRecDepth 100000 in
theorem c_M_sortB (l : Launch) (z : Nat) (D : va_G) (ac : Nat → ClassId) (sa : Nat → Nat) (P : pm_T) (h0 : Nat) (ma : Nat → Nat) (mv : Nat → Nat → Int32) (th al so : Int32) (n t : Nat) (hn40 : n ≤ 40) (ht100 : t ≤ 100) (j : Nat) (hj : j < n) (hq : su_cm (mv 10) (mv 11) (nI j) t = none) (mw : md_W P ac h0 ma mv th (nI n) al (nI t) so)  : cx_M l yy_M_sort bb_M_sort 4 (some .int) ({ frames := 3, cells := 0, slots := 0, locals := 90 } : Room) z D ac sa P [.ref h0, .int (nI j)] (fun v P' => v = some (.int 0) ∧ md_W P' ac h0 ma mv 2 (nI n) al (nI t) so ∧ md_F P P' h0 ma) := by
  refine cx_ofM (by decide) (Nat.le_of_ble_eq_true rfl) (fun p e s m below meth c ls hx hb hr hml hg hown hlocks hin hK hw hl => ?_)
  have hl : lv_has ls 4 [(0, .ref h0), (1, .int (nI j))] := hl
  have hown : s.vm.findClass cn_M = some m.cls := hown
  refine lv_aload_n hx hb dd_M_sort_0 rfl (lv_at hl 0 rfl) ?_
  refine lv_iload_n hx hb dd_M_sort_1 rfl (lv_at hl 1 rfl) ?_
  refine cx_after (cx_rV (n := 1) (As := [.int (nI j)]) (rest := []) ⟨hx, hb, hml, hown, hg⟩ (c_M_isHydrant l z D ac sa P h0 ma mv th (nI n) al (nI t) so (nI j) mw) (cx_gv gm_M_95 gi_M_isHydrant gs_M_isHydrant gn_M gc_M_isHydrant) (by decide +kernel) ⟨by decide, by decide⟩ hK hw mw.1 rfl rfl hl.1 rfl (Nat.le_of_ble_eq_true rfl) dd_M_sort_2 ⟨by decide, by decide⟩) hw (fun v9 P9 H locs hp hw => ?_)
  obtain ⟨rfl, e9⟩ := hp
  rw [e9] at hw
  clear e9 P9
  refine W.eq (g2 := F0 m 5 ls [.int (su_in (nI j) 0 ((nI n) - 1))]) rfl ?_
  refine W.eq (g2 := F0 m 5 ls [.int (1 : Int32)]) (by rw [show (su_in (nI j) 0 ((nI n) - 1)) = (1 : Int32) from su_hin_i hj (by omega)]) ?_
  refine lv_if_eq (tgt := 16) hx hb dd_M_sort_5 (by decide) (fun c31 => absurd c31 (by decide)) (fun c31 => ?_)
  refine lv_aload_n hx hb dd_M_sort_8 rfl (lv_at hl 0 rfl) ?_
  refine lv_iload_n hx hb dd_M_sort_9 rfl (lv_at hl 1 rfl) ?_
  refine cx_after (cx_rV (n := 1) (As := [.int (nI j)]) (rest := []) ⟨hx, hb, hml, hown, hg⟩ (c_M_counts l z D ac sa P h0 ma mv th (nI n) al (nI t) so (nI j) t ht100 rfl mw) (cx_gv gm_M_107 gi_M_counts gs_M_counts gn_M gc_M_counts) (by decide +kernel) ⟨by decide, by decide⟩ hK hw mw.1 rfl rfl hl.1 rfl (Nat.le_of_ble_eq_true rfl) dd_M_sort_10 ⟨by decide, by decide⟩) hw (fun v9 P9 H locs hp hw => ?_)
  obtain ⟨rfl, e9⟩ := hp
  rw [e9] at hw
  clear e9 P9
  refine W.eq (g2 := F0 m 13 ls [.int (su_oi (su_cm (mv 10) (mv 11) (nI j) t))]) rfl ?_
  refine W.eq (g2 := F0 m 13 ls [.int (-1 : Int32)]) (by rw [show (su_oi (su_cm (mv 10) (mv 11) (nI j) t)) = (-1 : Int32) from by rw [hq]; rfl]) ?_
  refine lv_goto (tgt := 17) hx hb dd_M_sort_13 (by decide) ?_
  refine lv_istore_n (lv' := [(2, .int (-1 : Int32)), (0, .ref h0), (1, .int (nI j))]) hx hb dd_M_sort_17 rfl hl (by decide) rfl (fun ls hl => ?_)
  refine lv_aload_n hx hb dd_M_sort_18 rfl (lv_at hl 1 rfl) ?_
  refine lv_aload_n hx hb dd_M_sort_19 rfl (lv_at hl 1 rfl) ?_
  refine lv_iload_n hx hb dd_M_sort_20 rfl (lv_at hl 2 rfl) ?_
  refine cx_after (cx_rV (n := 1) (As := [.int (nI j)]) (rest := [.ref h0]) ⟨hx, hb, hml, hown, hg⟩ (c_M_isHydrant l z D ac sa P h0 ma mv th (nI n) al (nI t) so (nI j) mw) (cx_gv gm_M_95 gi_M_isHydrant gs_M_isHydrant gn_M gc_M_isHydrant) (by decide +kernel) ⟨by decide, by decide⟩ hK hw mw.1 rfl rfl hl.1 rfl (Nat.le_of_ble_eq_true rfl) dd_M_sort_21 ⟨by decide, by decide⟩) hw (fun v9 P9 H locs hp hw => ?_)
  obtain ⟨rfl, e9⟩ := hp
  rw [e9] at hw
  clear e9 P9
  refine W.eq (g2 := F0 m 24 ls [.int (su_in (nI j) 0 ((nI n) - 1)), .ref h0]) rfl ?_
  refine W.eq (g2 := F0 m 24 ls [.int (1 : Int32), .ref h0]) (by rw [show (su_in (nI j) 0 ((nI n) - 1)) = (1 : Int32) from su_hin_i hj (by omega)]) ?_
  refine lv_iload_n hx hb dd_M_sort_24 rfl (lv_at hl 0 rfl) ?_
  refine lv_if_lt (tgt := 32) hx hb dd_M_sort_25 (by decide) (fun c32 => ?_) (fun c32 => absurd (by decide) c32)
  refine lv_iconst (v := 0) hx hb dd_M_sort_32 (by decide) ?_
  refine lv_iload_n hx hb dd_M_sort_33 rfl (lv_at hl 0 rfl) ?_
  refine lv_if_lt (tgt := 52) hx hb dd_M_sort_34 (by decide) (fun c33 => ?_) (fun c33 => absurd (by decide) c33)
  refine lv_iconst (v := 0) hx hb dd_M_sort_52 (by decide) ?_
  refine lv_iconst (v := 1) hx hb dd_M_sort_53 (by decide) ?_
  refine cx_after (cx_rV (n := 4) (As := [.int (1 : Int32), .int (0 : Int32), .int (0 : Int32), .int (1 : Int32)]) (rest := []) ⟨hx, hb, hml, hown, hg⟩ (c_M_goes l z D ac sa P h0 ma mv th (nI n) al (nI t) so (1 : Int32) (0 : Int32) (0 : Int32) (1 : Int32) mw) (cx_gv gm_M_83 gi_M_goes gs_M_goes gn_M gc_M_goes) (by decide +kernel) ⟨by decide, by decide⟩ hK hw mw.1 rfl rfl hl.1 rfl (Nat.le_of_ble_eq_true rfl) dd_M_sort_54 ⟨by decide, by decide⟩) hw (fun v9 P9 H locs hp hw => ?_)
  obtain ⟨rfl, e9⟩ := hp
  rw [e9] at hw
  clear e9 P9
  refine W.eq (g2 := F0 m 57 ls [.int (if (su_gs (1 : Int32) (0 : Int32) (0 : Int32) (1 : Int32)) = 0 then 1 else 0)]) rfl ?_
  obtain ⟨P34, eP34⟩ : ∃ pmv : pm_T, pmv = pm_up P h0 (md_o ma (su_gs (1 : Int32) (0 : Int32) (0 : Int32) (1 : Int32)) (nI n) al (nI t) so) := ⟨_, rfl⟩
  have hw : pm_W z D cl_w (pm_up P h0 (md_o ma (su_gs (1 : Int32) (0 : Int32) (0 : Int32) (1 : Int32)) (nI n) al (nI t) so)) s.heap H _ := hw
  rw [← eP34] at hw
  have mwP34 : md_W P34 ac h0 ma mv (su_gs (1 : Int32) (0 : Int32) (0 : Int32) (1 : Int32)) (nI n) al (nI t) so := by rw [eP34]; exact md_W.obj mw
  have mfP34 : md_F P P34 h0 ma := by rw [eP34]; exact md_F.obj md_F.rf
  refine W.eq (g2 := F0 m 57 ls [.int (0 : Int32)]) (by rw [show (if (su_gs (1 : Int32) (0 : Int32) (0 : Int32) (1 : Int32)) = 0 then 1 else 0) = (0 : Int32) from if_neg (fun h8 => (su_gs0 h8).2.1 rfl)]) ?_
  refine lv_if_ne (tgt := 62) hx hb dd_M_sort_57 (by decide) (fun c35 => absurd (by decide) c35) (fun c35 => ?_)
  refine lv_iconst (v := 0) hx hb dd_M_sort_60 (by decide) ?_
  refine cx_iret (v := (0 : Int32)) hx hb hr rfl hlocks hw dd_M_sort_61 (by decide) (by decide) ?_
  exact ⟨rfl, by have h7 := mwP34; rw [show (su_gs (1 : Int32) (0 : Int32) (0 : Int32) (1 : Int32)) = 2 from by simp [su_gs]] at h7; exact h7, mfP34⟩

set_option maxHeartbeats 4000000 in
set_option maxRecDepth 100000 in
theorem c_M_sortC (l : Launch) (z : Nat) (D : va_G) (ac : Nat → ClassId) (sa : Nat → Nat) (P : pm_T) (h0 : Nat) (ma : Nat → Nat) (mv : Nat → Nat → Int32) (th al so : Int32) (n t : Nat) (hn40 : n ≤ 40) (ht100 : t ≤ 100) (j : Nat) (hj : j < n) (i : Nat) (hq : su_cm (mv 10) (mv 11) (nI j) t = some i) (mw : md_W P ac h0 ma mv th (nI n) al (nI t) so)  : cx_M l yy_M_sort bb_M_sort 4 (some .int) ({ frames := 3, cells := 0, slots := 0, locals := 90 } : Room) z D ac sa P [.ref h0, .int (nI j)] (fun v P' => ((su_gs 1 1 (su_b (su_mct mv i 200)) 1) = 0 → v = some (.int (su_sq (su_mup mv i 200 / su_mdn mv i 200))) ∧ md_W P' ac h0 ma mv (su_gs 1 1 (su_b (su_mct mv i 200)) 1) (nI n) al (nI t) so) ∧ (¬ (su_gs 1 1 (su_b (su_mct mv i 200)) 1) = 0 → v = some (.int 0) ∧ md_W P' ac h0 ma mv (su_gs 1 1 (su_b (su_mct mv i 200)) 1) (nI n) al (nI t) so) ∧ md_F P P' h0 ma) := by
  refine cx_ofM (by decide) (Nat.le_of_ble_eq_true rfl) (fun p e s m below meth c ls hx hb hr hml hg hown hlocks hin hK hw hl => ?_)
  have hl : lv_has ls 4 [(0, .ref h0), (1, .int (nI j))] := hl
  have hown : s.vm.findClass cn_M = some m.cls := hown
  have hi9 : i < 100 := by have := su_cm_lt hq; omega
  have j53 : ∀ (H : Heap) (locs : List Loc) (ls : Array Slot), pm_W z D cl_w P s.heap H locs → lv_has ls 4 [(2, .int (nI i)), (0, .ref h0), (1, .int (nI j))] → W p l e ({ frames := 3, cells := 0, slots := 0, locals := 90 } : Room) s m ([.ref h0, .int (nI j)] : List Value).toArray below meth c H locs 0 0 (MQ below (cx_Q z D (fun v P' => ((su_gs 1 1 (su_b (su_mct mv i 200)) 1) = 0 → v = some (.int (su_sq (su_mup mv i 200 / su_mdn mv i 200))) ∧ md_W P' ac h0 ma mv (su_gs 1 1 (su_b (su_mct mv i 200)) 1) (nI n) al (nI t) so) ∧ (¬ (su_gs 1 1 (su_b (su_mct mv i 200)) 1) = 0 → v = some (.int 0) ∧ md_W P' ac h0 ma mv (su_gs 1 1 (su_b (su_mct mv i 200)) 1) (nI n) al (nI t) so) ∧ md_F P P' h0 ma)) ([.ref h0, .int (nI j)] : List Value).toArray s ({ frames := 3, cells := 0, slots := 0, locals := 90 } : Room).cells ({ frames := 3, cells := 0, slots := 0, locals := 90 } : Room).slots (pm_A z)) (F0 m 53 ls [.int (su_b (su_mct mv i (200 : Int32))), .int (1 : Int32), .int (1 : Int32), .ref h0]) := by
    intro H locs ls hw hl
    refine lv_iconst (v := 1) hx hb dd_M_sort_53 (by decide) ?_
    refine cx_after (cx_rV (n := 4) (As := [.int (1 : Int32), .int (1 : Int32), .int (su_b (su_mct mv i (200 : Int32))), .int (1 : Int32)]) (rest := []) ⟨hx, hb, hml, hown, hg⟩ (c_M_goes l z D ac sa P h0 ma mv th (nI n) al (nI t) so (1 : Int32) (1 : Int32) (su_b (su_mct mv i (200 : Int32))) (1 : Int32) mw) (cx_gv gm_M_83 gi_M_goes gs_M_goes gn_M gc_M_goes) (by decide +kernel) ⟨by decide, by decide⟩ hK hw mw.1 rfl rfl hl.1 rfl (Nat.le_of_ble_eq_true rfl) dd_M_sort_54 ⟨by decide, by decide⟩) hw (fun v9 P9 H locs hp hw => ?_)
    obtain ⟨rfl, e9⟩ := hp
    rw [e9] at hw
    clear e9 P9
    refine W.eq (g2 := F0 m 57 ls [.int (if (su_gs (1 : Int32) (1 : Int32) (su_b (su_mct mv i (200 : Int32))) (1 : Int32)) = 0 then 1 else 0)]) rfl ?_
    obtain ⟨P41, eP41⟩ : ∃ pmv : pm_T, pmv = pm_up P h0 (md_o ma (su_gs (1 : Int32) (1 : Int32) (su_b (su_mct mv i (200 : Int32))) (1 : Int32)) (nI n) al (nI t) so) := ⟨_, rfl⟩
    have hw : pm_W z D cl_w (pm_up P h0 (md_o ma (su_gs (1 : Int32) (1 : Int32) (su_b (su_mct mv i (200 : Int32))) (1 : Int32)) (nI n) al (nI t) so)) s.heap H _ := hw
    rw [← eP41] at hw
    have mwP41 : md_W P41 ac h0 ma mv (su_gs (1 : Int32) (1 : Int32) (su_b (su_mct mv i (200 : Int32))) (1 : Int32)) (nI n) al (nI t) so := by rw [eP41]; exact md_W.obj mw
    have mfP41 : md_F P P41 h0 ma := by rw [eP41]; exact md_F.obj md_F.rf
    refine lv_if_ne (tgt := 62) hx hb dd_M_sort_57 (by decide) (fun c42 => ?_) (fun c42 => ?_)
    · skip
      refine lv_aload_n hx hb dd_M_sort_62 rfl (lv_at hl 1 rfl) ?_
      refine lv_iload_n hx hb dd_M_sort_63 rfl (lv_at hl 0 rfl) ?_
      refine lv_sipush (v := 200) hx hb dd_M_sort_64 (by decide) ?_
      refine cx_after (cx_rV (n := 2) (As := [.int (nI i), .int (200 : Int32)]) (rest := []) ⟨hx, hb, hml, hown, hg⟩ (c_M_up l z D ac sa P41 h0 ma mv (su_gs (1 : Int32) (1 : Int32) (su_b (su_mct mv i (200 : Int32))) (1 : Int32)) (nI n) al (nI t) so i (200 : Int32) (by omega) mwP41) (cx_gv gm_M_118 gi_M_up gs_M_up gn_M gc_M_up) (by decide +kernel) ⟨by decide, by decide⟩ hK hw mwP41.1 rfl rfl hl.1 rfl (Nat.le_of_ble_eq_true rfl) dd_M_sort_67 ⟨by decide, by decide⟩) hw (fun v9 P9 H locs hp hw => ?_)
      obtain ⟨rfl, e9⟩ := hp
      rw [e9] at hw
      clear e9 P9
      refine W.eq (g2 := F0 m 70 ls [.int (su_mup mv i (200 : Int32))]) rfl ?_
      refine lv_aload_n hx hb dd_M_sort_70 rfl (lv_at hl 1 rfl) ?_
      refine lv_iload_n hx hb dd_M_sort_71 rfl (lv_at hl 0 rfl) ?_
      refine lv_sipush (v := 200) hx hb dd_M_sort_72 (by decide) ?_
      refine cx_after (cx_rV (n := 2) (As := [.int (nI i), .int (200 : Int32)]) (rest := [.int (su_mup mv i (200 : Int32))]) ⟨hx, hb, hml, hown, hg⟩ (c_M_down l z D ac sa P41 h0 ma mv (su_gs (1 : Int32) (1 : Int32) (su_b (su_mct mv i (200 : Int32))) (1 : Int32)) (nI n) al (nI t) so i (200 : Int32) (by omega) mwP41) (cx_gv gm_M_114 gi_M_down gs_M_down gn_M gc_M_down) (by decide +kernel) ⟨by decide, by decide⟩ hK hw mwP41.1 rfl rfl hl.1 rfl (Nat.le_of_ble_eq_true rfl) dd_M_sort_75 ⟨by decide, by decide⟩) hw (fun v9 P9 H locs hp hw => ?_)
      obtain ⟨rfl, e9⟩ := hp
      rw [e9] at hw
      clear e9 P9
      refine W.eq (g2 := F0 m 78 ls [.int (su_mdn mv i (200 : Int32)), .int (su_mup mv i (200 : Int32))]) rfl ?_
      refine lv_idiv hx hb dd_M_sort_78 (su_mdn_nz (su_b1' (su_gs0 (su_nz c42)).2.2.1)) ?_
      refine lv_topi (fun x43 ex43 => ?_)
      refine lv_istore_n (lv' := [(3, .int x43), (2, .int (nI i)), (0, .ref h0), (1, .int (nI j))]) hx hb dd_M_sort_79 rfl hl (by decide) rfl (fun ls hl => ?_)
      refine lv_iload_n hx hb dd_M_sort_80 rfl (lv_at hl 0 rfl) ?_
      refine lv_sipush (v := 500) hx hb dd_M_sort_81 (by decide) ?_
      refine lv_icmp_ge (tgt := 91) hx hb dd_M_sort_84 (by decide) (fun c44 => ?_) (fun c44 => ?_)
      · skip
        refine lv_iload_n hx hb dd_M_sort_91 rfl (lv_at hl 0 rfl) ?_
        refine lv_sipush (v := 1000) hx hb dd_M_sort_92 (by decide) ?_
        refine lv_icmp_ge (tgt := 102) hx hb dd_M_sort_95 (by decide) (fun c45 => ?_) (fun c45 => ?_)
        · skip
          refine lv_iload_n hx hb dd_M_sort_102 rfl (lv_at hl 0 rfl) ?_
          refine lv_sipush (v := 1500) hx hb dd_M_sort_103 (by decide) ?_
          refine lv_icmp_ge (tgt := 113) hx hb dd_M_sort_106 (by decide) (fun c46 => ?_) (fun c46 => ?_)
          · skip
            refine lv_iconst (v := 3) hx hb dd_M_sort_113 (by decide) ?_
            refine cx_iret (v := (3 : Int32)) hx hb hr rfl hlocks hw dd_M_sort_114 (by decide) (by decide) ?_
            exact ⟨fun _ => ⟨by rw [← ex43]; simp only [su_sq, if_pos c44, if_pos c45, if_pos c46], mwP41⟩, fun h8 => absurd (su_nz c42) h8, mfP41⟩
          · skip
            refine lv_iconst (v := 2) hx hb dd_M_sort_109 (by decide) ?_
            refine lv_goto (tgt := 114) hx hb dd_M_sort_110 (by decide) ?_
            refine cx_iret (v := (2 : Int32)) hx hb hr rfl hlocks hw dd_M_sort_114 (by decide) (by decide) ?_
            exact ⟨fun _ => ⟨by rw [← ex43]; simp only [su_sq, if_pos c44, if_pos c45, if_neg c46], mwP41⟩, fun h8 => absurd (su_nz c42) h8, mfP41⟩
        · skip
          refine lv_iconst (v := 1) hx hb dd_M_sort_98 (by decide) ?_
          refine lv_goto (tgt := 114) hx hb dd_M_sort_99 (by decide) ?_
          refine cx_iret (v := (1 : Int32)) hx hb hr rfl hlocks hw dd_M_sort_114 (by decide) (by decide) ?_
          exact ⟨fun _ => ⟨by rw [← ex43]; simp only [su_sq, if_pos c44, if_neg c45], mwP41⟩, fun h8 => absurd (su_nz c42) h8, mfP41⟩
      · skip
        refine lv_iconst (v := 0) hx hb dd_M_sort_87 (by decide) ?_
        refine lv_goto (tgt := 114) hx hb dd_M_sort_88 (by decide) ?_
        refine cx_iret (v := (0 : Int32)) hx hb hr rfl hlocks hw dd_M_sort_114 (by decide) (by decide) ?_
        exact ⟨fun _ => ⟨by rw [← ex43]; simp only [su_sq, if_neg c44], mwP41⟩, fun h8 => absurd (su_nz c42) h8, mfP41⟩
    · skip
      refine lv_iconst (v := 0) hx hb dd_M_sort_60 (by decide) ?_
      refine cx_iret (v := (0 : Int32)) hx hb hr rfl hlocks hw dd_M_sort_61 (by decide) (by decide) ?_
      exact ⟨fun h8 => absurd h8 (su_iz c42), fun _ => ⟨rfl, mwP41⟩, mfP41⟩
  refine lv_aload_n hx hb dd_M_sort_0 rfl (lv_at hl 0 rfl) ?_
  refine lv_iload_n hx hb dd_M_sort_1 rfl (lv_at hl 1 rfl) ?_
  refine cx_after (cx_rV (n := 1) (As := [.int (nI j)]) (rest := []) ⟨hx, hb, hml, hown, hg⟩ (c_M_isHydrant l z D ac sa P h0 ma mv th (nI n) al (nI t) so (nI j) mw) (cx_gv gm_M_95 gi_M_isHydrant gs_M_isHydrant gn_M gc_M_isHydrant) (by decide +kernel) ⟨by decide, by decide⟩ hK hw mw.1 rfl rfl hl.1 rfl (Nat.le_of_ble_eq_true rfl) dd_M_sort_2 ⟨by decide, by decide⟩) hw (fun v9 P9 H locs hp hw => ?_)
  obtain ⟨rfl, e9⟩ := hp
  rw [e9] at hw
  clear e9 P9
  refine W.eq (g2 := F0 m 5 ls [.int (su_in (nI j) 0 ((nI n) - 1))]) rfl ?_
  refine W.eq (g2 := F0 m 5 ls [.int (1 : Int32)]) (by rw [show (su_in (nI j) 0 ((nI n) - 1)) = (1 : Int32) from su_hin_i hj (by omega)]) ?_
  refine lv_if_eq (tgt := 16) hx hb dd_M_sort_5 (by decide) (fun c47 => absurd c47 (by decide)) (fun c47 => ?_)
  refine lv_aload_n hx hb dd_M_sort_8 rfl (lv_at hl 0 rfl) ?_
  refine lv_iload_n hx hb dd_M_sort_9 rfl (lv_at hl 1 rfl) ?_
  refine cx_after (cx_rV (n := 1) (As := [.int (nI j)]) (rest := []) ⟨hx, hb, hml, hown, hg⟩ (c_M_counts l z D ac sa P h0 ma mv th (nI n) al (nI t) so (nI j) t ht100 rfl mw) (cx_gv gm_M_107 gi_M_counts gs_M_counts gn_M gc_M_counts) (by decide +kernel) ⟨by decide, by decide⟩ hK hw mw.1 rfl rfl hl.1 rfl (Nat.le_of_ble_eq_true rfl) dd_M_sort_10 ⟨by decide, by decide⟩) hw (fun v9 P9 H locs hp hw => ?_)
  obtain ⟨rfl, e9⟩ := hp
  rw [e9] at hw
  clear e9 P9
  refine W.eq (g2 := F0 m 13 ls [.int (su_oi (su_cm (mv 10) (mv 11) (nI j) t))]) rfl ?_
  refine W.eq (g2 := F0 m 13 ls [.int (nI i)]) (by rw [show (su_oi (su_cm (mv 10) (mv 11) (nI j) t)) = (nI i) from by rw [hq]; rfl]) ?_
  refine lv_goto (tgt := 17) hx hb dd_M_sort_13 (by decide) ?_
  refine lv_istore_n (lv' := [(2, .int (nI i)), (0, .ref h0), (1, .int (nI j))]) hx hb dd_M_sort_17 rfl hl (by decide) rfl (fun ls hl => ?_)
  refine lv_aload_n hx hb dd_M_sort_18 rfl (lv_at hl 1 rfl) ?_
  refine lv_aload_n hx hb dd_M_sort_19 rfl (lv_at hl 1 rfl) ?_
  refine lv_iload_n hx hb dd_M_sort_20 rfl (lv_at hl 2 rfl) ?_
  refine cx_after (cx_rV (n := 1) (As := [.int (nI j)]) (rest := [.ref h0]) ⟨hx, hb, hml, hown, hg⟩ (c_M_isHydrant l z D ac sa P h0 ma mv th (nI n) al (nI t) so (nI j) mw) (cx_gv gm_M_95 gi_M_isHydrant gs_M_isHydrant gn_M gc_M_isHydrant) (by decide +kernel) ⟨by decide, by decide⟩ hK hw mw.1 rfl rfl hl.1 rfl (Nat.le_of_ble_eq_true rfl) dd_M_sort_21 ⟨by decide, by decide⟩) hw (fun v9 P9 H locs hp hw => ?_)
  obtain ⟨rfl, e9⟩ := hp
  rw [e9] at hw
  clear e9 P9
  refine W.eq (g2 := F0 m 24 ls [.int (su_in (nI j) 0 ((nI n) - 1)), .ref h0]) rfl ?_
  refine W.eq (g2 := F0 m 24 ls [.int (1 : Int32), .ref h0]) (by rw [show (su_in (nI j) 0 ((nI n) - 1)) = (1 : Int32) from su_hin_i hj (by omega)]) ?_
  refine lv_iload_n hx hb dd_M_sort_24 rfl (lv_at hl 0 rfl) ?_
  refine lv_if_lt (tgt := 32) hx hb dd_M_sort_25 (by decide) (fun c48 => absurd c48 (nI_pos (by omega))) (fun c48 => ?_)
  refine lv_iconst (v := 1) hx hb dd_M_sort_28 (by decide) ?_
  refine lv_goto (tgt := 33) hx hb dd_M_sort_29 (by decide) ?_
  refine lv_iload_n hx hb dd_M_sort_33 rfl (lv_at hl 0 rfl) ?_
  refine lv_if_lt (tgt := 52) hx hb dd_M_sort_34 (by decide) (fun c49 => absurd c49 (nI_pos (by omega))) (fun c49 => ?_)
  refine lv_aload_n hx hb dd_M_sort_37 rfl (lv_at hl 1 rfl) ?_
  refine lv_iload_n hx hb dd_M_sort_38 rfl (lv_at hl 0 rfl) ?_
  refine lv_sipush (v := 200) hx hb dd_M_sort_39 (by decide) ?_
  refine cx_after (cx_rV (n := 2) (As := [.int (nI i), .int (200 : Int32)]) (rest := [.int (1 : Int32), .int (1 : Int32), .ref h0]) ⟨hx, hb, hml, hown, hg⟩ (c_M_canTell l z D ac sa P h0 ma mv th (nI n) al (nI t) so i (200 : Int32) (by omega) mw) (cx_gv gm_M_111 gi_M_canTell gs_M_canTell gn_M gc_M_canTell) (by decide +kernel) ⟨by decide, by decide⟩ hK hw mw.1 rfl rfl hl.1 rfl (Nat.le_of_ble_eq_true rfl) dd_M_sort_42 ⟨by decide, by decide⟩) hw (fun v9 P9 H locs hp hw => ?_)
  obtain ⟨rfl, e9⟩ := hp
  rw [e9] at hw
  clear e9 P9
  refine W.eq (g2 := F0 m 45 ls [.int (su_mct mv i (200 : Int32)), .int (1 : Int32), .int (1 : Int32), .ref h0]) rfl ?_
  refine lv_if_eq (tgt := 52) hx hb dd_M_sort_45 (by decide) (fun c50 => ?_) (fun c50 => ?_)
  · skip
    refine lv_iconst (v := 0) hx hb dd_M_sort_52 (by decide) ?_
    refine W.eq (g2 := F0 m 53 ls [.int (su_b (su_mct mv i (200 : Int32))), .int (1 : Int32), .int (1 : Int32), .ref h0]) (by rw [show (su_b (su_mct mv i (200 : Int32))) = (0 : Int32) from by rw [su_b, if_pos c50]]) ?_
    exact j53 _ _ ls hw (lv_sub hl [0, 1, 2] rfl)
  · skip
    refine lv_iconst (v := 1) hx hb dd_M_sort_48 (by decide) ?_
    refine lv_goto (tgt := 53) hx hb dd_M_sort_49 (by decide) ?_
    refine W.eq (g2 := F0 m 53 ls [.int (su_b (su_mct mv i (200 : Int32))), .int (1 : Int32), .int (1 : Int32), .ref h0]) (by rw [show (su_b (su_mct mv i (200 : Int32))) = (1 : Int32) from by rw [su_b, if_neg c50]]) ?_
    exact j53 _ _ ls hw (lv_sub hl [0, 1, 2] rfl)

set_option maxHeartbeats 4000000 in
set_option maxRecDepth 100000 in
theorem c_M_worksA (l : Launch) (z : Nat) (D : va_G) (ac : Nat → ClassId) (sa : Nat → Nat) (P : pm_T) (h0 : Nat) (ma : Nat → Nat) (mv : Nat → Nat → Int32) (th al so : Int32) (n t : Nat) (hn40 : n ≤ 40) (ht100 : t ≤ 100) (p1 p2 p3 : Int32) (hA : su_in p1 0 (nI n - 1) = 0) (mw : md_W P ac h0 ma mv th (nI n) al (nI t) so)  : cx_M l yy_M_works bb_M_works 7 none ({ frames := 3, cells := 0, slots := 0, locals := 90 } : Room) z D ac sa P [.ref h0, .int p1, .int p2, .int p3] (fun v P' => v = none ∧ md_W P' ac h0 ma mv 1 (nI n) al (nI t) so ∧ md_F P P' h0 ma) := by
  refine cx_ofM (by decide) (Nat.le_of_ble_eq_true rfl) (fun p e s m below meth c ls hx hb hr hml hg hown hlocks hin hK hw hl => ?_)
  have hl : lv_has ls 7 [(0, .ref h0), (1, .int p1), (2, .int p2), (3, .int p3)] := hl
  have hown : s.vm.findClass cn_M = some m.cls := hown
  have j95 : ∀ (H : Heap) (locs : List Loc) (ls : Array Slot), pm_W z D cl_w P s.heap H locs → lv_has ls 7 [(6, .int (0 : Int32)), (5, .int (1 : Int32)), (4, .int (0 : Int32)), (0, .ref h0), (1, .int p1), (2, .int p2), (3, .int p3)] → W p l e ({ frames := 3, cells := 0, slots := 0, locals := 90 } : Room) s m ([.ref h0, .int p1, .int p2, .int p3] : List Value).toArray below meth c H locs 0 0 (MQ below (cx_Q z D (fun v P' => v = none ∧ md_W P' ac h0 ma mv 1 (nI n) al (nI t) so ∧ md_F P P' h0 ma)) ([.ref h0, .int p1, .int p2, .int p3] : List Value).toArray s ({ frames := 3, cells := 0, slots := 0, locals := 90 } : Room).cells ({ frames := 3, cells := 0, slots := 0, locals := 90 } : Room).slots (pm_A z)) (F0 m 95 ls [.int (su_dd p2 p3), .int (0 : Int32), .ref h0]) := by
    intro H locs ls hw hl
    refine lv_iload hx hb dd_M_works_95 (lv_at hl 1 rfl) ?_
    refine lv_iload hx hb dd_M_works_97 (lv_at hl 2 rfl) ?_
    refine lv_if_eq (tgt := 116) hx hb dd_M_works_99 (by decide) (fun c38 => ?_) (fun c38 => absurd (by decide) c38)
    refine lv_iconst (v := 0) hx hb dd_M_works_116 (by decide) ?_
    refine cx_after (cx_rV (n := 4) (As := [.int (0 : Int32), .int (su_dd p2 p3), .int (1 : Int32), .int (0 : Int32)]) (rest := []) ⟨hx, hb, hml, hown, hg⟩ (c_M_goes l z D ac sa P h0 ma mv th (nI n) al (nI t) so (0 : Int32) (su_dd p2 p3) (1 : Int32) (0 : Int32) mw) (cx_gv gm_M_83 gi_M_goes gs_M_goes gn_M gc_M_goes) (by decide +kernel) ⟨by decide, by decide⟩ hK hw mw.1 rfl rfl hl.1 rfl (Nat.le_of_ble_eq_true rfl) dd_M_works_117 ⟨by decide, by decide⟩) hw (fun v9 P9 H locs hp hw => ?_)
    obtain ⟨rfl, e9⟩ := hp
    rw [e9] at hw
    clear e9 P9
    refine W.eq (g2 := F0 m 120 ls [.int (if (su_gs (0 : Int32) (su_dd p2 p3) (1 : Int32) (0 : Int32)) = 0 then 1 else 0)]) rfl ?_
    obtain ⟨P39, eP39⟩ : ∃ pmv : pm_T, pmv = pm_up P h0 (md_o ma (su_gs (0 : Int32) (su_dd p2 p3) (1 : Int32) (0 : Int32)) (nI n) al (nI t) so) := ⟨_, rfl⟩
    have hw : pm_W z D cl_w (pm_up P h0 (md_o ma (su_gs (0 : Int32) (su_dd p2 p3) (1 : Int32) (0 : Int32)) (nI n) al (nI t) so)) s.heap H _ := hw
    rw [← eP39] at hw
    have mwP39 : md_W P39 ac h0 ma mv (su_gs (0 : Int32) (su_dd p2 p3) (1 : Int32) (0 : Int32)) (nI n) al (nI t) so := by rw [eP39]; exact md_W.obj mw
    have mfP39 : md_F P P39 h0 ma := by rw [eP39]; exact md_F.obj md_F.rf
    refine W.eq (g2 := F0 m 120 ls [.int (0 : Int32)]) (by rw [show (if (su_gs (0 : Int32) (su_dd p2 p3) (1 : Int32) (0 : Int32)) = 0 then 1 else 0) = (0 : Int32) from if_neg (fun h8 => (su_gs0 h8).1 rfl)]) ?_
    refine lv_if_ne (tgt := 124) hx hb dd_M_works_120 (by decide) (fun c40 => absurd (by decide) c40) (fun c40 => ?_)
    refine cx_vret hx hb hr hlocks hw dd_M_works_123 (by decide) (by decide) ?_
    exact ⟨rfl, by have h7 := mwP39; rw [show (su_gs (0 : Int32) (su_dd p2 p3) (1 : Int32) (0 : Int32)) = 1 from by simp [su_gs]] at h7; exact h7, mfP39⟩
  refine lv_aload_n hx hb dd_M_works_0 rfl (lv_at hl 0 rfl) ?_
  refine lv_iload_n hx hb dd_M_works_1 rfl (lv_at hl 1 rfl) ?_
  refine cx_after (cx_rV (n := 1) (As := [.int p1]) (rest := []) ⟨hx, hb, hml, hown, hg⟩ (c_M_isHydrant l z D ac sa P h0 ma mv th (nI n) al (nI t) so p1 mw) (cx_gv gm_M_95 gi_M_isHydrant gs_M_isHydrant gn_M gc_M_isHydrant) (by decide +kernel) ⟨by decide, by decide⟩ hK hw mw.1 rfl rfl hl.1 rfl (Nat.le_of_ble_eq_true rfl) dd_M_works_2 ⟨by decide, by decide⟩) hw (fun v9 P9 H locs hp hw => ?_)
  obtain ⟨rfl, e9⟩ := hp
  rw [e9] at hw
  clear e9 P9
  refine W.eq (g2 := F0 m 5 ls [.int (su_in p1 0 ((nI n) - 1))]) rfl ?_
  refine W.eq (g2 := F0 m 5 ls [.int (0 : Int32)]) (by rw [show (su_in p1 0 ((nI n) - 1)) = (0 : Int32) from hA]) ?_
  refine lv_istore (lv' := [(4, .int (0 : Int32)), (0, .ref h0), (1, .int p1), (2, .int p2), (3, .int p3)]) hx hb dd_M_works_5 hl (by decide) rfl (fun ls hl => ?_)
  refine lv_iconst (v := 1) hx hb dd_M_works_7 (by decide) ?_
  refine lv_istore (lv' := [(5, .int (1 : Int32)), (4, .int (0 : Int32)), (0, .ref h0), (1, .int p1), (2, .int p2), (3, .int p3)]) hx hb dd_M_works_8 hl (by decide) rfl (fun ls hl => ?_)
  refine lv_iconst (v := 0) hx hb dd_M_works_10 (by decide) ?_
  refine lv_istore (lv' := [(6, .int (0 : Int32)), (5, .int (1 : Int32)), (4, .int (0 : Int32)), (0, .ref h0), (1, .int p1), (2, .int p2), (3, .int p3)]) hx hb dd_M_works_11 hl (by decide) rfl (fun ls hl => ?_)
  refine lv_iload hx hb dd_M_works_13 (lv_at hl 2 rfl) ?_
  refine lv_if_eq (tgt := 68) hx hb dd_M_works_15 (by decide) (fun c41 => ?_) (fun c41 => absurd (by decide) c41)
  refine lv_aload_n hx hb dd_M_works_68 rfl (lv_at hl 3 rfl) ?_
  refine lv_iload hx hb dd_M_works_69 (lv_at hl 2 rfl) ?_
  refine lv_iload_n hx hb dd_M_works_71 rfl (lv_at hl 5 rfl) ?_
  refine cx_after (cx_rS (n := 1) (As := [.int p2]) (rest := [.int (0 : Int32), .ref h0]) ⟨hx, hb, hml, hown, hg⟩ (c_M_isDay l z D ac sa P p2) (cx_gs gm_M_98 gt_M_isDay gn_M gc_M_isDay) (by decide +kernel) ⟨by decide, by decide⟩ hK hw rfl hl.1 rfl (Nat.le_of_ble_eq_true rfl) dd_M_works_72 ⟨by decide, by decide⟩) hw (fun v9 P9 H locs hp hw => ?_)
  obtain ⟨rfl, e9⟩ := hp
  rw [e9] at hw
  clear e9 P9
  refine W.eq (g2 := F0 m 75 ls [.int (su_in p2 0 99999), .int (0 : Int32), .ref h0]) rfl ?_
  refine lv_if_eq (tgt := 94) hx hb dd_M_works_75 (by decide) (fun c42 => ?_) (fun c42 => ?_)
  · skip
    refine lv_iconst (v := 0) hx hb dd_M_works_94 (by decide) ?_
    refine W.eq (g2 := F0 m 95 ls [.int (su_dd p2 p3), .int (0 : Int32), .ref h0]) (by rw [show (su_dd p2 p3) = (0 : Int32) from by rw [su_dd, if_pos c42]]) ?_
    exact j95 _ _ ls hw (lv_sub hl [0, 1, 2, 3, 4, 5, 6] rfl)
  · skip
    refine lv_iload_n hx hb dd_M_works_78 rfl (lv_at hl 6 rfl) ?_
    refine cx_after (cx_rS (n := 1) (As := [.int p3]) (rest := [.int (0 : Int32), .ref h0]) ⟨hx, hb, hml, hown, hg⟩ (c_M_isDay l z D ac sa P p3) (cx_gs gm_M_98 gt_M_isDay gn_M gc_M_isDay) (by decide +kernel) ⟨by decide, by decide⟩ hK hw rfl hl.1 rfl (Nat.le_of_ble_eq_true rfl) dd_M_works_79 ⟨by decide, by decide⟩) hw (fun v9 P9 H locs hp hw => ?_)
    obtain ⟨rfl, e9⟩ := hp
    rw [e9] at hw
    clear e9 P9
    refine W.eq (g2 := F0 m 82 ls [.int (su_in p3 0 99999), .int (0 : Int32), .ref h0]) rfl ?_
    refine lv_if_eq (tgt := 94) hx hb dd_M_works_82 (by decide) (fun c43 => ?_) (fun c43 => ?_)
    · skip
      refine lv_iconst (v := 0) hx hb dd_M_works_94 (by decide) ?_
      refine W.eq (g2 := F0 m 95 ls [.int (su_dd p2 p3), .int (0 : Int32), .ref h0]) (by rw [show (su_dd p2 p3) = (0 : Int32) from by rw [su_dd, if_neg c42, if_pos c43]]) ?_
      exact j95 _ _ ls hw (lv_sub hl [0, 1, 2, 3, 4, 5, 6] rfl)
    · skip
      refine lv_iload_n hx hb dd_M_works_85 rfl (lv_at hl 5 rfl) ?_
      refine lv_iload_n hx hb dd_M_works_86 rfl (lv_at hl 6 rfl) ?_
      refine lv_icmp_gt (tgt := 94) hx hb dd_M_works_87 (by decide) (fun c44 => ?_) (fun c44 => ?_)
      · skip
        refine lv_iconst (v := 0) hx hb dd_M_works_94 (by decide) ?_
        refine W.eq (g2 := F0 m 95 ls [.int (su_dd p2 p3), .int (0 : Int32), .ref h0]) (by rw [show (su_dd p2 p3) = (0 : Int32) from by rw [su_dd, if_neg c42, if_neg c43, if_pos c44]]) ?_
        exact j95 _ _ ls hw (lv_sub hl [0, 1, 2, 3, 4, 5, 6] rfl)
      · skip
        refine lv_iconst (v := 1) hx hb dd_M_works_90 (by decide) ?_
        refine lv_goto (tgt := 95) hx hb dd_M_works_91 (by decide) ?_
        refine W.eq (g2 := F0 m 95 ls [.int (su_dd p2 p3), .int (0 : Int32), .ref h0]) (by rw [show (su_dd p2 p3) = (1 : Int32) from by rw [su_dd, if_neg c42, if_neg c43, if_neg c44]]) ?_
        exact j95 _ _ ls hw (lv_sub hl [0, 1, 2, 3, 4, 5, 6] rfl)

set_option maxHeartbeats 4000000 in
set_option maxRecDepth 100000 in
theorem c_M_worksW (l : Launch) (z : Nat) (D : va_G) (ac : Nat → ClassId) (sa : Nat → Nat) (P : pm_T) (h0 : Nat) (ma : Nat → Nat) (mv : Nat → Nat → Int32) (th al so : Int32) (n t : Nat) (hn40 : n ≤ 40) (ht100 : t ≤ 100) (j : Nat) (hj : j < n) (p2 p3 : Int32) (w : Nat) (hw3 : w ≤ 3) (hmw : mv 5 j = nI w) (mw : md_W P ac h0 ma mv th (nI n) al (nI t) so)  : cx_M l yy_M_works bb_M_works 7 none ({ frames := 3, cells := 0, slots := 0, locals := 90 } : Room) z D ac sa P [.ref h0, .int (nI j), .int p2, .int p3] (fun v P' => ((su_gs 1 (su_dd p2 p3) (su_wf mv j p2 p3 w) (su_lt (nI w) 3)) = 0 → v = none ∧ md_W P' ac h0 ma (va_up (va_up (va_up mv 6 (upd (mv 6) (3 * j + w) p2)) 7 (upd (mv 7) (3 * j + w) p3)) 5 (upd (mv 5) j (nI w + 1))) (su_gs 1 (su_dd p2 p3) (su_wf mv j p2 p3 w) (su_lt (nI w) 3)) (nI n) al (nI t) so) ∧ (¬ (su_gs 1 (su_dd p2 p3) (su_wf mv j p2 p3 w) (su_lt (nI w) 3)) = 0 → v = none ∧ md_W P' ac h0 ma mv (su_gs 1 (su_dd p2 p3) (su_wf mv j p2 p3 w) (su_lt (nI w) 3)) (nI n) al (nI t) so) ∧ md_F P P' h0 ma) := by
  refine cx_ofM (by decide) (Nat.le_of_ble_eq_true rfl) (fun p e s m below meth c ls hx hb hr hml hg hown hlocks hin hK hw hl => ?_)
  have hl : lv_has ls 7 [(0, .ref h0), (1, .int (nI j)), (2, .int p2), (3, .int p3)] := hl
  have hown : s.vm.findClass cn_M = some m.cls := hown
  have j117 : ∀ (H : Heap) (locs : List Loc) (ls : Array Slot), pm_W z D cl_w P s.heap H locs → lv_has ls 7 [(6, .int (nI w)), (5, .int (su_wf mv j p2 p3 w)), (4, .int (1 : Int32)), (0, .ref h0), (1, .int (nI j)), (2, .int p2), (3, .int p3)] → W p l e ({ frames := 3, cells := 0, slots := 0, locals := 90 } : Room) s m ([.ref h0, .int (nI j), .int p2, .int p3] : List Value).toArray below meth c H locs 0 0 (MQ below (cx_Q z D (fun v P' => ((su_gs 1 (su_dd p2 p3) (su_wf mv j p2 p3 w) (su_lt (nI w) 3)) = 0 → v = none ∧ md_W P' ac h0 ma (va_up (va_up (va_up mv 6 (upd (mv 6) (3 * j + w) p2)) 7 (upd (mv 7) (3 * j + w) p3)) 5 (upd (mv 5) j (nI w + 1))) (su_gs 1 (su_dd p2 p3) (su_wf mv j p2 p3 w) (su_lt (nI w) 3)) (nI n) al (nI t) so) ∧ (¬ (su_gs 1 (su_dd p2 p3) (su_wf mv j p2 p3 w) (su_lt (nI w) 3)) = 0 → v = none ∧ md_W P' ac h0 ma mv (su_gs 1 (su_dd p2 p3) (su_wf mv j p2 p3 w) (su_lt (nI w) 3)) (nI n) al (nI t) so) ∧ md_F P P' h0 ma)) ([.ref h0, .int (nI j), .int p2, .int p3] : List Value).toArray s ({ frames := 3, cells := 0, slots := 0, locals := 90 } : Room).cells ({ frames := 3, cells := 0, slots := 0, locals := 90 } : Room).slots (pm_A z)) (F0 m 117 ls [.int (su_lt (nI w) 3), .int (su_wf mv j p2 p3 w), .int (su_dd p2 p3), .int (1 : Int32), .ref h0]) := by
    intro H locs ls hw hl
    refine cx_after (cx_rV (n := 4) (As := [.int (1 : Int32), .int (su_dd p2 p3), .int (su_wf mv j p2 p3 w), .int (su_lt (nI w) 3)]) (rest := []) ⟨hx, hb, hml, hown, hg⟩ (c_M_goes l z D ac sa P h0 ma mv th (nI n) al (nI t) so (1 : Int32) (su_dd p2 p3) (su_wf mv j p2 p3 w) (su_lt (nI w) 3) mw) (cx_gv gm_M_83 gi_M_goes gs_M_goes gn_M gc_M_goes) (by decide +kernel) ⟨by decide, by decide⟩ hK hw mw.1 rfl rfl hl.1 rfl (Nat.le_of_ble_eq_true rfl) dd_M_works_117 ⟨by decide, by decide⟩) hw (fun v9 P9 H locs hp hw => ?_)
    obtain ⟨rfl, e9⟩ := hp
    rw [e9] at hw
    clear e9 P9
    refine W.eq (g2 := F0 m 120 ls [.int (if (su_gs (1 : Int32) (su_dd p2 p3) (su_wf mv j p2 p3 w) (su_lt (nI w) 3)) = 0 then 1 else 0)]) rfl ?_
    obtain ⟨P31, eP31⟩ : ∃ pmv : pm_T, pmv = pm_up P h0 (md_o ma (su_gs (1 : Int32) (su_dd p2 p3) (su_wf mv j p2 p3 w) (su_lt (nI w) 3)) (nI n) al (nI t) so) := ⟨_, rfl⟩
    have hw : pm_W z D cl_w (pm_up P h0 (md_o ma (su_gs (1 : Int32) (su_dd p2 p3) (su_wf mv j p2 p3 w) (su_lt (nI w) 3)) (nI n) al (nI t) so)) s.heap H _ := hw
    rw [← eP31] at hw
    have mwP31 : md_W P31 ac h0 ma mv (su_gs (1 : Int32) (su_dd p2 p3) (su_wf mv j p2 p3 w) (su_lt (nI w) 3)) (nI n) al (nI t) so := by rw [eP31]; exact md_W.obj mw
    have mfP31 : md_F P P31 h0 ma := by rw [eP31]; exact md_F.obj md_F.rf
    refine lv_if_ne (tgt := 124) hx hb dd_M_works_120 (by decide) (fun c32 => ?_) (fun c32 => ?_)
    · skip
      refine lv_aload_n hx hb dd_M_works_124 rfl (lv_at hl 3 rfl) ?_
      refine pm_get (ci := 6) (C := cn_M) (T := cf_M) (N := 23) (v := .ref (ma 6)) hx hb hg gu_M hown hK.2.1 hw mwP31.1 rfl 8 (by decide) (hg _ gf_M_28) (fun _ h9 => h9) rfl dd_M_works_125 ?_
      refine lv_iconst (v := 3) hx hb dd_M_works_128 (by decide) ?_
      refine lv_iload_n hx hb dd_M_works_129 rfl (lv_at hl 4 rfl) ?_
      refine lv_imul hx hb dd_M_works_130 ?_
      refine lv_aload_n hx hb dd_M_works_131 rfl (lv_at hl 3 rfl) ?_
      refine pm_get (ci := 6) (C := cn_M) (T := cf_M) (N := 23) (v := .ref (ma 5)) hx hb hg gu_M hown hK.2.1 hw mwP31.1 rfl 7 (by decide) (hg _ gf_M_25) (fun _ h9 => h9) rfl dd_M_works_132 ?_
      refine lv_iload_n hx hb dd_M_works_135 rfl (lv_at hl 4 rfl) ?_
      refine pm_iald hx hb hK.2.1 hw 0 (show P31 (ma 5) = some (.inl (ac 0, 40, .inl (mv 5))) from mwP31.2.1 5 (by decide)) rfl (vp_in_nI (by omega) (by decide)) dd_M_works_136 ?_
      refine W.eq (g2 := F0 m 137 ls [.int (mv 5 j), .int ((3 : Int32) * (nI j)), .ref (ma 6)]) (by rw [show ((mv 5) ((nI j).toNatClampNeg)) = (mv 5 j) from by rw [nI_clamp (by omega)]]) ?_
      refine W.eq (g2 := F0 m 137 ls [.int (nI w), .int ((3 : Int32) * (nI j)), .ref (ma 6)]) (by rw [show (mv 5 j) = (nI w) from hmw]) ?_
      refine lv_iadd hx hb dd_M_works_137 ?_
      refine W.eq (g2 := F0 m 138 ls [.int (nI (3 * j + w)), .ref (ma 6)]) (by rw [show (((3 : Int32) * (nI j)) + (nI w)) = (nI (3 * j + w)) from by rw [show (3 : Int32) = nI 3 from rfl, nI_mul, nI_add]]) ?_
      refine lv_iload_n hx hb dd_M_works_138 rfl (lv_at hl 5 rfl) ?_
      refine pm_iast (x := p2) hx hb hK.2.1 hw 0 (show P31 (ma 6) = some (.inl (ac 0, 120, .inl (mv 6))) from mwP31.2.1 6 (by decide)) rfl (vp_in_nI (by have h8 : nI w < nI 3 := su_lt1 (su_gs0 (su_nz c32)).2.2.2; rw [nI_ltI (by omega) (by decide)] at h8; omega) (by decide)) dd_M_works_139 (fun H locs hw => ?_)
      obtain ⟨P33, eP33⟩ : ∃ pmv : pm_T, pmv = pm_up P31 (ma 6) (md_a ac 6 (upd (mv 6) ((nI (3 * j + w)).toNatClampNeg) p2)) := ⟨_, rfl⟩
      have hw : pm_W z D cl_w (pm_up P31 (ma 6) (md_a ac 6 (upd (mv 6) ((nI (3 * j + w)).toNatClampNeg) p2))) s.heap H _ := hw
      rw [← eP33] at hw
      have mwP33 : md_W P33 ac h0 ma (va_up mv 6 (upd (mv 6) ((nI (3 * j + w)).toNatClampNeg) p2)) (su_gs (1 : Int32) (su_dd p2 p3) (su_wf mv j p2 p3 w) (su_lt (nI w) 3)) (nI n) al (nI t) so := by rw [eP33]; exact md_W.put mwP31 6 (by decide)
      have mfP33 : md_F P P33 h0 ma := by rw [eP33]; exact md_F.put (by decide) mfP31
      refine lv_aload_n hx hb dd_M_works_140 rfl (lv_at hl 3 rfl) ?_
      refine pm_get (ci := 6) (C := cn_M) (T := cf_M) (N := 23) (v := .ref (ma 7)) hx hb hg gu_M hown hK.2.1 hw mwP33.1 rfl 9 (by decide) (hg _ gf_M_31) (fun _ h9 => h9) rfl dd_M_works_141 ?_
      refine lv_iconst (v := 3) hx hb dd_M_works_144 (by decide) ?_
      refine lv_iload_n hx hb dd_M_works_145 rfl (lv_at hl 4 rfl) ?_
      refine lv_imul hx hb dd_M_works_146 ?_
      refine lv_aload_n hx hb dd_M_works_147 rfl (lv_at hl 3 rfl) ?_
      refine pm_get (ci := 6) (C := cn_M) (T := cf_M) (N := 23) (v := .ref (ma 5)) hx hb hg gu_M hown hK.2.1 hw mwP33.1 rfl 7 (by decide) (hg _ gf_M_25) (fun _ h9 => h9) rfl dd_M_works_148 ?_
      refine lv_iload_n hx hb dd_M_works_151 rfl (lv_at hl 4 rfl) ?_
      refine pm_iald hx hb hK.2.1 hw 0 (show P33 (ma 5) = some (.inl (ac 0, 40, .inl ((va_up mv 6 (upd (mv 6) ((nI (3 * j + w)).toNatClampNeg) p2)) 5))) from mwP33.2.1 5 (by decide)) rfl (vp_in_nI (by omega) (by decide)) dd_M_works_152 ?_
      refine W.eq (g2 := F0 m 153 ls [.int (nI w), .int ((3 : Int32) * (nI j)), .ref (ma 7)]) (by rw [show (((va_up mv 6 (upd (mv 6) ((nI (3 * j + w)).toNatClampNeg) p2)) 5) ((nI j).toNatClampNeg)) = (nI w) from by rw [show (nI j).toNatClampNeg = j from nI_clamp (by omega)]; exact hmw]) ?_
      refine lv_iadd hx hb dd_M_works_153 ?_
      refine W.eq (g2 := F0 m 154 ls [.int (nI (3 * j + w)), .ref (ma 7)]) (by rw [show (((3 : Int32) * (nI j)) + (nI w)) = (nI (3 * j + w)) from by rw [show (3 : Int32) = nI 3 from rfl, nI_mul, nI_add]]) ?_
      refine lv_iload_n hx hb dd_M_works_154 rfl (lv_at hl 6 rfl) ?_
      refine pm_iast (x := p3) hx hb hK.2.1 hw 0 (show P33 (ma 7) = some (.inl (ac 0, 120, .inl ((va_up mv 6 (upd (mv 6) ((nI (3 * j + w)).toNatClampNeg) p2)) 7))) from mwP33.2.1 7 (by decide)) rfl (vp_in_nI (by have h8 : nI w < nI 3 := su_lt1 (su_gs0 (su_nz c32)).2.2.2; rw [nI_ltI (by omega) (by decide)] at h8; omega) (by decide)) dd_M_works_155 (fun H locs hw => ?_)
      obtain ⟨P34, eP34⟩ : ∃ pmv : pm_T, pmv = pm_up P33 (ma 7) (md_a ac 7 (upd ((va_up mv 6 (upd (mv 6) ((nI (3 * j + w)).toNatClampNeg) p2)) 7) ((nI (3 * j + w)).toNatClampNeg) p3)) := ⟨_, rfl⟩
      have hw : pm_W z D cl_w (pm_up P33 (ma 7) (md_a ac 7 (upd ((va_up mv 6 (upd (mv 6) ((nI (3 * j + w)).toNatClampNeg) p2)) 7) ((nI (3 * j + w)).toNatClampNeg) p3))) s.heap H _ := hw
      rw [← eP34] at hw
      have mwP34 : md_W P34 ac h0 ma (va_up (va_up mv 6 (upd (mv 6) ((nI (3 * j + w)).toNatClampNeg) p2)) 7 (upd ((va_up mv 6 (upd (mv 6) ((nI (3 * j + w)).toNatClampNeg) p2)) 7) ((nI (3 * j + w)).toNatClampNeg) p3)) (su_gs (1 : Int32) (su_dd p2 p3) (su_wf mv j p2 p3 w) (su_lt (nI w) 3)) (nI n) al (nI t) so := by rw [eP34]; exact md_W.put mwP33 7 (by decide)
      have mfP34 : md_F P P34 h0 ma := by rw [eP34]; exact md_F.put (by decide) mfP33
      refine lv_aload_n hx hb dd_M_works_156 rfl (lv_at hl 3 rfl) ?_
      refine pm_get (ci := 6) (C := cn_M) (T := cf_M) (N := 23) (v := .ref (ma 5)) hx hb hg gu_M hown hK.2.1 hw mwP34.1 rfl 7 (by decide) (hg _ gf_M_25) (fun _ h9 => h9) rfl dd_M_works_157 ?_
      refine lv_iload_n hx hb dd_M_works_160 rfl (lv_at hl 4 rfl) ?_
      refine lv_dup2_11 hx hb dd_M_works_161 rfl rfl ?_
      refine pm_iald hx hb hK.2.1 hw 0 (show P34 (ma 5) = some (.inl (ac 0, 40, .inl ((va_up (va_up mv 6 (upd (mv 6) ((nI (3 * j + w)).toNatClampNeg) p2)) 7 (upd ((va_up mv 6 (upd (mv 6) ((nI (3 * j + w)).toNatClampNeg) p2)) 7) ((nI (3 * j + w)).toNatClampNeg) p3)) 5))) from mwP34.2.1 5 (by decide)) rfl (vp_in_nI (by omega) (by decide)) dd_M_works_162 ?_
      refine W.eq (g2 := F0 m 163 ls [.int (nI w), .int (nI j), .ref (ma 5)]) (by rw [show (((va_up (va_up mv 6 (upd (mv 6) ((nI (3 * j + w)).toNatClampNeg) p2)) 7 (upd ((va_up mv 6 (upd (mv 6) ((nI (3 * j + w)).toNatClampNeg) p2)) 7) ((nI (3 * j + w)).toNatClampNeg) p3)) 5) ((nI j).toNatClampNeg)) = (nI w) from by rw [show (nI j).toNatClampNeg = j from nI_clamp (by omega)]; exact hmw]) ?_
      refine lv_iconst (v := 1) hx hb dd_M_works_163 (by decide) ?_
      refine lv_iadd hx hb dd_M_works_164 ?_
      refine lv_topi (fun x35 ex35 => ?_)
      refine pm_iast (x := x35) hx hb hK.2.1 hw 0 (show P34 (ma 5) = some (.inl (ac 0, 40, .inl ((va_up (va_up mv 6 (upd (mv 6) ((nI (3 * j + w)).toNatClampNeg) p2)) 7 (upd ((va_up mv 6 (upd (mv 6) ((nI (3 * j + w)).toNatClampNeg) p2)) 7) ((nI (3 * j + w)).toNatClampNeg) p3)) 5))) from mwP34.2.1 5 (by decide)) rfl (vp_in_nI (by omega) (by decide)) dd_M_works_165 (fun H locs hw => ?_)
      obtain ⟨P36, eP36⟩ : ∃ pmv : pm_T, pmv = pm_up P34 (ma 5) (md_a ac 5 (upd ((va_up (va_up mv 6 (upd (mv 6) ((nI (3 * j + w)).toNatClampNeg) p2)) 7 (upd ((va_up mv 6 (upd (mv 6) ((nI (3 * j + w)).toNatClampNeg) p2)) 7) ((nI (3 * j + w)).toNatClampNeg) p3)) 5) ((nI j).toNatClampNeg) x35)) := ⟨_, rfl⟩
      have hw : pm_W z D cl_w (pm_up P34 (ma 5) (md_a ac 5 (upd ((va_up (va_up mv 6 (upd (mv 6) ((nI (3 * j + w)).toNatClampNeg) p2)) 7 (upd ((va_up mv 6 (upd (mv 6) ((nI (3 * j + w)).toNatClampNeg) p2)) 7) ((nI (3 * j + w)).toNatClampNeg) p3)) 5) ((nI j).toNatClampNeg) x35))) s.heap H _ := hw
      rw [← eP36] at hw
      have mwP36 : md_W P36 ac h0 ma (va_up (va_up (va_up mv 6 (upd (mv 6) ((nI (3 * j + w)).toNatClampNeg) p2)) 7 (upd ((va_up mv 6 (upd (mv 6) ((nI (3 * j + w)).toNatClampNeg) p2)) 7) ((nI (3 * j + w)).toNatClampNeg) p3)) 5 (upd ((va_up (va_up mv 6 (upd (mv 6) ((nI (3 * j + w)).toNatClampNeg) p2)) 7 (upd ((va_up mv 6 (upd (mv 6) ((nI (3 * j + w)).toNatClampNeg) p2)) 7) ((nI (3 * j + w)).toNatClampNeg) p3)) 5) ((nI j).toNatClampNeg) x35)) (su_gs (1 : Int32) (su_dd p2 p3) (su_wf mv j p2 p3 w) (su_lt (nI w) 3)) (nI n) al (nI t) so := by rw [eP36]; exact md_W.put mwP34 5 (by decide)
      have mfP36 : md_F P P36 h0 ma := by rw [eP36]; exact md_F.put (by decide) mfP34
      refine cx_vret hx hb hr hlocks hw dd_M_works_166 (by decide) (by decide) ?_
      rw [ex35] at mwP36
      have hc1 : (nI (3 * j + w)).toNatClampNeg = 3 * j + w := nI_clamp (by omega)
      have hc2 : (nI j).toNatClampNeg = j := nI_clamp (by omega)
      exact ⟨fun _ => ⟨rfl, by rw [hc1, hc2] at mwP36; exact mwP36⟩, fun h8 => absurd (su_nz c32) h8, mfP36⟩
    · skip
      refine cx_vret hx hb hr hlocks hw dd_M_works_123 (by decide) (by decide) ?_
      exact ⟨fun h8 => absurd h8 (su_iz c32), fun _ => ⟨rfl, mwP31⟩, mfP31⟩
  have j95 : ∀ (H : Heap) (locs : List Loc) (ls : Array Slot), pm_W z D cl_w P s.heap H locs → lv_has ls 7 [(6, .int (nI w)), (5, .int (su_wf mv j p2 p3 w)), (4, .int (1 : Int32)), (0, .ref h0), (1, .int (nI j)), (2, .int p2), (3, .int p3)] → W p l e ({ frames := 3, cells := 0, slots := 0, locals := 90 } : Room) s m ([.ref h0, .int (nI j), .int p2, .int p3] : List Value).toArray below meth c H locs 0 0 (MQ below (cx_Q z D (fun v P' => ((su_gs 1 (su_dd p2 p3) (su_wf mv j p2 p3 w) (su_lt (nI w) 3)) = 0 → v = none ∧ md_W P' ac h0 ma (va_up (va_up (va_up mv 6 (upd (mv 6) (3 * j + w) p2)) 7 (upd (mv 7) (3 * j + w) p3)) 5 (upd (mv 5) j (nI w + 1))) (su_gs 1 (su_dd p2 p3) (su_wf mv j p2 p3 w) (su_lt (nI w) 3)) (nI n) al (nI t) so) ∧ (¬ (su_gs 1 (su_dd p2 p3) (su_wf mv j p2 p3 w) (su_lt (nI w) 3)) = 0 → v = none ∧ md_W P' ac h0 ma mv (su_gs 1 (su_dd p2 p3) (su_wf mv j p2 p3 w) (su_lt (nI w) 3)) (nI n) al (nI t) so) ∧ md_F P P' h0 ma)) ([.ref h0, .int (nI j), .int p2, .int p3] : List Value).toArray s ({ frames := 3, cells := 0, slots := 0, locals := 90 } : Room).cells ({ frames := 3, cells := 0, slots := 0, locals := 90 } : Room).slots (pm_A z)) (F0 m 95 ls [.int (su_dd p2 p3), .int (1 : Int32), .ref h0]) := by
    intro H locs ls hw hl
    refine lv_iload hx hb dd_M_works_95 (lv_at hl 1 rfl) ?_
    refine lv_iload hx hb dd_M_works_97 (lv_at hl 2 rfl) ?_
    refine lv_if_eq (tgt := 116) hx hb dd_M_works_99 (by decide) (fun c37 => absurd c37 (by decide)) (fun c37 => ?_)
    refine lv_aload_n hx hb dd_M_works_102 rfl (lv_at hl 3 rfl) ?_
    refine pm_get (ci := 6) (C := cn_M) (T := cf_M) (N := 23) (v := .ref (ma 5)) hx hb hg gu_M hown hK.2.1 hw mw.1 rfl 7 (by decide) (hg _ gf_M_25) (fun _ h9 => h9) rfl dd_M_works_103 ?_
    refine lv_iload_n hx hb dd_M_works_106 rfl (lv_at hl 4 rfl) ?_
    refine pm_iald hx hb hK.2.1 hw 0 (show P (ma 5) = some (.inl (ac 0, 40, .inl (mv 5))) from mw.2.1 5 (by decide)) rfl (vp_in_nI (by omega) (by decide)) dd_M_works_107 ?_
    refine W.eq (g2 := F0 m 108 ls [.int (mv 5 j), .int (su_wf mv j p2 p3 w), .int (su_dd p2 p3), .int (1 : Int32), .ref h0]) (by rw [show ((mv 5) ((nI j).toNatClampNeg)) = (mv 5 j) from by rw [nI_clamp (by omega)]]) ?_
    refine W.eq (g2 := F0 m 108 ls [.int (nI w), .int (su_wf mv j p2 p3 w), .int (su_dd p2 p3), .int (1 : Int32), .ref h0]) (by rw [show (mv 5 j) = (nI w) from hmw]) ?_
    refine lv_iconst (v := 3) hx hb dd_M_works_108 (by decide) ?_
    refine lv_icmp_ge (tgt := 116) hx hb dd_M_works_109 (by decide) (fun c38 => ?_) (fun c38 => ?_)
    · skip
      refine lv_iconst (v := 0) hx hb dd_M_works_116 (by decide) ?_
      refine W.eq (g2 := F0 m 117 ls [.int (su_lt (nI w) 3), .int (su_wf mv j p2 p3 w), .int (su_dd p2 p3), .int (1 : Int32), .ref h0]) (by rw [show (su_lt (nI w) 3) = (0 : Int32) from by rw [su_lt, if_pos c38]]) ?_
      exact j117 _ _ ls hw (lv_sub hl [0, 1, 2, 3, 4, 5, 6] rfl)
    · skip
      refine lv_iconst (v := 1) hx hb dd_M_works_112 (by decide) ?_
      refine lv_goto (tgt := 117) hx hb dd_M_works_113 (by decide) ?_
      refine W.eq (g2 := F0 m 117 ls [.int (su_lt (nI w) 3), .int (su_wf mv j p2 p3 w), .int (su_dd p2 p3), .int (1 : Int32), .ref h0]) (by rw [show (su_lt (nI w) 3) = (1 : Int32) from by rw [su_lt, if_neg c38]]) ?_
      exact j117 _ _ ls hw (lv_sub hl [0, 1, 2, 3, 4, 5, 6] rfl)
  have j68 : ∀ (H : Heap) (locs : List Loc) (ls : Array Slot), pm_W z D cl_w P s.heap H locs → lv_has ls 7 [(6, .int (nI w)), (5, .int (su_wf mv j p2 p3 w)), (4, .int (1 : Int32)), (0, .ref h0), (1, .int (nI j)), (2, .int p2), (3, .int p3)] → W p l e ({ frames := 3, cells := 0, slots := 0, locals := 90 } : Room) s m ([.ref h0, .int (nI j), .int p2, .int p3] : List Value).toArray below meth c H locs 0 0 (MQ below (cx_Q z D (fun v P' => ((su_gs 1 (su_dd p2 p3) (su_wf mv j p2 p3 w) (su_lt (nI w) 3)) = 0 → v = none ∧ md_W P' ac h0 ma (va_up (va_up (va_up mv 6 (upd (mv 6) (3 * j + w) p2)) 7 (upd (mv 7) (3 * j + w) p3)) 5 (upd (mv 5) j (nI w + 1))) (su_gs 1 (su_dd p2 p3) (su_wf mv j p2 p3 w) (su_lt (nI w) 3)) (nI n) al (nI t) so) ∧ (¬ (su_gs 1 (su_dd p2 p3) (su_wf mv j p2 p3 w) (su_lt (nI w) 3)) = 0 → v = none ∧ md_W P' ac h0 ma mv (su_gs 1 (su_dd p2 p3) (su_wf mv j p2 p3 w) (su_lt (nI w) 3)) (nI n) al (nI t) so) ∧ md_F P P' h0 ma)) ([.ref h0, .int (nI j), .int p2, .int p3] : List Value).toArray s ({ frames := 3, cells := 0, slots := 0, locals := 90 } : Room).cells ({ frames := 3, cells := 0, slots := 0, locals := 90 } : Room).slots (pm_A z)) (F0 m 68 ls []) := by
    intro H locs ls hw hl
    refine lv_aload_n hx hb dd_M_works_68 rfl (lv_at hl 3 rfl) ?_
    refine lv_iload hx hb dd_M_works_69 (lv_at hl 2 rfl) ?_
    refine lv_iload_n hx hb dd_M_works_71 rfl (lv_at hl 5 rfl) ?_
    refine cx_after (cx_rS (n := 1) (As := [.int p2]) (rest := [.int (1 : Int32), .ref h0]) ⟨hx, hb, hml, hown, hg⟩ (c_M_isDay l z D ac sa P p2) (cx_gs gm_M_98 gt_M_isDay gn_M gc_M_isDay) (by decide +kernel) ⟨by decide, by decide⟩ hK hw rfl hl.1 rfl (Nat.le_of_ble_eq_true rfl) dd_M_works_72 ⟨by decide, by decide⟩) hw (fun v9 P9 H locs hp hw => ?_)
    obtain ⟨rfl, e9⟩ := hp
    rw [e9] at hw
    clear e9 P9
    refine W.eq (g2 := F0 m 75 ls [.int (su_in p2 0 99999), .int (1 : Int32), .ref h0]) rfl ?_
    refine lv_if_eq (tgt := 94) hx hb dd_M_works_75 (by decide) (fun c39 => ?_) (fun c39 => ?_)
    · skip
      refine lv_iconst (v := 0) hx hb dd_M_works_94 (by decide) ?_
      refine W.eq (g2 := F0 m 95 ls [.int (su_dd p2 p3), .int (1 : Int32), .ref h0]) (by rw [show (su_dd p2 p3) = (0 : Int32) from by rw [su_dd, if_pos c39]]) ?_
      exact j95 _ _ ls hw (lv_sub hl [0, 1, 2, 3, 4, 5, 6] rfl)
    · skip
      refine lv_iload_n hx hb dd_M_works_78 rfl (lv_at hl 6 rfl) ?_
      refine cx_after (cx_rS (n := 1) (As := [.int p3]) (rest := [.int (1 : Int32), .ref h0]) ⟨hx, hb, hml, hown, hg⟩ (c_M_isDay l z D ac sa P p3) (cx_gs gm_M_98 gt_M_isDay gn_M gc_M_isDay) (by decide +kernel) ⟨by decide, by decide⟩ hK hw rfl hl.1 rfl (Nat.le_of_ble_eq_true rfl) dd_M_works_79 ⟨by decide, by decide⟩) hw (fun v9 P9 H locs hp hw => ?_)
      obtain ⟨rfl, e9⟩ := hp
      rw [e9] at hw
      clear e9 P9
      refine W.eq (g2 := F0 m 82 ls [.int (su_in p3 0 99999), .int (1 : Int32), .ref h0]) rfl ?_
      refine lv_if_eq (tgt := 94) hx hb dd_M_works_82 (by decide) (fun c40 => ?_) (fun c40 => ?_)
      · skip
        refine lv_iconst (v := 0) hx hb dd_M_works_94 (by decide) ?_
        refine W.eq (g2 := F0 m 95 ls [.int (su_dd p2 p3), .int (1 : Int32), .ref h0]) (by rw [show (su_dd p2 p3) = (0 : Int32) from by rw [su_dd, if_neg c39, if_pos c40]]) ?_
        exact j95 _ _ ls hw (lv_sub hl [0, 1, 2, 3, 4, 5, 6] rfl)
      · skip
        refine lv_iload_n hx hb dd_M_works_85 rfl (lv_at hl 5 rfl) ?_
        refine lv_iload_n hx hb dd_M_works_86 rfl (lv_at hl 6 rfl) ?_
        refine lv_icmp_gt (tgt := 94) hx hb dd_M_works_87 (by decide) (fun c41 => ?_) (fun c41 => ?_)
        · skip
          refine lv_iconst (v := 0) hx hb dd_M_works_94 (by decide) ?_
          refine W.eq (g2 := F0 m 95 ls [.int (su_dd p2 p3), .int (1 : Int32), .ref h0]) (by rw [show (su_dd p2 p3) = (0 : Int32) from by rw [su_dd, if_neg c39, if_neg c40, if_pos c41]]) ?_
          exact j95 _ _ ls hw (lv_sub hl [0, 1, 2, 3, 4, 5, 6] rfl)
        · skip
          refine lv_iconst (v := 1) hx hb dd_M_works_90 (by decide) ?_
          refine lv_goto (tgt := 95) hx hb dd_M_works_91 (by decide) ?_
          refine W.eq (g2 := F0 m 95 ls [.int (su_dd p2 p3), .int (1 : Int32), .ref h0]) (by rw [show (su_dd p2 p3) = (1 : Int32) from by rw [su_dd, if_neg c39, if_neg c40, if_neg c41]]) ?_
          exact j95 _ _ ls hw (lv_sub hl [0, 1, 2, 3, 4, 5, 6] rfl)
  have lp : ∀ (n9 k : Nat), k + n9 = w → ∀ (fr : Int32) (H : Heap) (locs : List Loc) (ls : Array Slot), fr = su_wf mv j p2 p3 k → pm_W z D cl_w P s.heap H locs → lv_has ls 7 [(6, .int (nI k)), (5, .int fr), (4, .int (1 : Int32)), (0, .ref h0), (1, .int (nI j)), (2, .int p2), (3, .int p3)] → W p l e ({ frames := 3, cells := 0, slots := 0, locals := 90 } : Room) s m ([.ref h0, .int (nI j), .int p2, .int p3] : List Value).toArray below meth c H locs 0 0 (MQ below (cx_Q z D (fun v P' => ((su_gs 1 (su_dd p2 p3) (su_wf mv j p2 p3 w) (su_lt (nI w) 3)) = 0 → v = none ∧ md_W P' ac h0 ma (va_up (va_up (va_up mv 6 (upd (mv 6) (3 * j + w) p2)) 7 (upd (mv 7) (3 * j + w) p3)) 5 (upd (mv 5) j (nI w + 1))) (su_gs 1 (su_dd p2 p3) (su_wf mv j p2 p3 w) (su_lt (nI w) 3)) (nI n) al (nI t) so) ∧ (¬ (su_gs 1 (su_dd p2 p3) (su_wf mv j p2 p3 w) (su_lt (nI w) 3)) = 0 → v = none ∧ md_W P' ac h0 ma mv (su_gs 1 (su_dd p2 p3) (su_wf mv j p2 p3 w) (su_lt (nI w) 3)) (nI n) al (nI t) so) ∧ md_F P P' h0 ma)) ([.ref h0, .int (nI j), .int p2, .int p3] : List Value).toArray s ({ frames := 3, cells := 0, slots := 0, locals := 90 } : Room).cells ({ frames := 3, cells := 0, slots := 0, locals := 90 } : Room).slots (pm_A z)) (F0 m 13 ls []) := by
    intro n9
    induction n9 with
    | zero =>
      intro k hk fr H locs ls efr hw hl
      have hk : k = w := by omega
      subst hk
      subst efr
      refine lv_iload hx hb dd_M_works_13 (lv_at hl 2 rfl) ?_
      refine lv_if_eq (tgt := 68) hx hb dd_M_works_15 (by decide) (fun c42 => absurd c42 (by decide)) (fun c42 => ?_)
      refine lv_iload hx hb dd_M_works_18 (lv_at hl 0 rfl) ?_
      refine lv_aload_n hx hb dd_M_works_20 rfl (lv_at hl 3 rfl) ?_
      refine pm_get (ci := 6) (C := cn_M) (T := cf_M) (N := 23) (v := .ref (ma 5)) hx hb hg gu_M hown hK.2.1 hw mw.1 rfl 7 (by decide) (hg _ gf_M_25) (fun _ h9 => h9) rfl dd_M_works_21 ?_
      refine lv_iload_n hx hb dd_M_works_24 rfl (lv_at hl 4 rfl) ?_
      refine pm_iald hx hb hK.2.1 hw 0 (show P (ma 5) = some (.inl (ac 0, 40, .inl (mv 5))) from mw.2.1 5 (by decide)) rfl (vp_in_nI (by omega) (by decide)) dd_M_works_25 ?_
      refine W.eq (g2 := F0 m 26 ls [.int (mv 5 j), .int (nI k)]) (by rw [show ((mv 5) ((nI j).toNatClampNeg)) = (mv 5 j) from by rw [nI_clamp (by omega)]]) ?_
      refine W.eq (g2 := F0 m 26 ls [.int (nI k), .int (nI k)]) (by rw [show (mv 5 j) = (nI k) from hmw]) ?_
      refine lv_icmp_ge (tgt := 68) hx hb dd_M_works_26 (by decide) (fun c43 => ?_) (fun c43 => absurd (Int32.le_refl _) c43)
      exact j68 _ _ ls hw (lv_sub hl [0, 1, 2, 3, 4, 5, 6] rfl)
    | succ n9 ih =>
      intro k hk fr H locs ls efr hw hl
      have hlt : k < w := by omega
      refine lv_iload hx hb dd_M_works_13 (lv_at hl 2 rfl) ?_
      refine lv_if_eq (tgt := 68) hx hb dd_M_works_15 (by decide) (fun c44 => absurd c44 (by decide)) (fun c44 => ?_)
      refine lv_iload hx hb dd_M_works_18 (lv_at hl 0 rfl) ?_
      refine lv_aload_n hx hb dd_M_works_20 rfl (lv_at hl 3 rfl) ?_
      refine pm_get (ci := 6) (C := cn_M) (T := cf_M) (N := 23) (v := .ref (ma 5)) hx hb hg gu_M hown hK.2.1 hw mw.1 rfl 7 (by decide) (hg _ gf_M_25) (fun _ h9 => h9) rfl dd_M_works_21 ?_
      refine lv_iload_n hx hb dd_M_works_24 rfl (lv_at hl 4 rfl) ?_
      refine pm_iald hx hb hK.2.1 hw 0 (show P (ma 5) = some (.inl (ac 0, 40, .inl (mv 5))) from mw.2.1 5 (by decide)) rfl (vp_in_nI (by omega) (by decide)) dd_M_works_25 ?_
      refine W.eq (g2 := F0 m 26 ls [.int (mv 5 j), .int (nI k)]) (by rw [show ((mv 5) ((nI j).toNatClampNeg)) = (mv 5 j) from by rw [nI_clamp (by omega)]]) ?_
      refine W.eq (g2 := F0 m 26 ls [.int (nI w), .int (nI k)]) (by rw [show (mv 5 j) = (nI w) from hmw]) ?_
      refine lv_icmp_ge (tgt := 68) hx hb dd_M_works_26 (by decide) (fun c45 => absurd c45 (nI_ge hlt (by omega))) (fun c45 => ?_)
      refine lv_iload_n hx hb dd_M_works_29 rfl (lv_at hl 5 rfl) ?_
      refine lv_aload_n hx hb dd_M_works_30 rfl (lv_at hl 3 rfl) ?_
      refine pm_get (ci := 6) (C := cn_M) (T := cf_M) (N := 23) (v := .ref (ma 7)) hx hb hg gu_M hown hK.2.1 hw mw.1 rfl 9 (by decide) (hg _ gf_M_31) (fun _ h9 => h9) rfl dd_M_works_31 ?_
      refine lv_iconst (v := 3) hx hb dd_M_works_34 (by decide) ?_
      refine lv_iload_n hx hb dd_M_works_35 rfl (lv_at hl 4 rfl) ?_
      refine lv_imul hx hb dd_M_works_36 ?_
      refine lv_iload hx hb dd_M_works_37 (lv_at hl 0 rfl) ?_
      refine lv_iadd hx hb dd_M_works_39 ?_
      refine W.eq (g2 := F0 m 40 ls [.int (nI (3 * j + k)), .ref (ma 7), .int p2]) (by rw [show (((3 : Int32) * (nI j)) + (nI k)) = (nI (3 * j + k)) from by rw [show (3 : Int32) = nI 3 from rfl, nI_mul, nI_add]]) ?_
      refine pm_iald hx hb hK.2.1 hw 0 (show P (ma 7) = some (.inl (ac 0, 120, .inl (mv 7))) from mw.2.1 7 (by decide)) rfl (vp_in_nI (by omega) (by decide)) dd_M_works_40 ?_
      refine W.eq (g2 := F0 m 41 ls [.int (mv 7 (3 * j + k)), .int p2]) (by rw [show ((mv 7) ((nI (3 * j + k)).toNatClampNeg)) = (mv 7 (3 * j + k)) from by rw [nI_clamp (by omega)]]) ?_
      refine lv_icmp_gt (tgt := 62) hx hb dd_M_works_41 (by decide) (fun c46 => ?_) (fun c46 => ?_)
      · skip
        obtain ⟨x47, ex47⟩ : ∃ y : Int32, y = (nI k) + 1 := ⟨_, rfl⟩
        refine lv_iinc (v := x47) (lv' := [(6, .int x47), (5, .int fr), (4, .int (1 : Int32)), (0, .ref h0), (1, .int (nI j)), (2, .int p2), (3, .int p3)]) hx hb dd_M_works_62 hl (k := 0) rfl (by rw [ex47]; rfl) (by decide) rfl (fun ls hl => ?_)
        refine lv_goto (tgt := 13) hx hb dd_M_works_65 (by decide) ?_
        have hi7 : x47 = nI (k + 1) := by rw [ex47]; exact nI_1 k
        rw [hi7] at hl
        exact ih (k + 1) (by omega) fr H _ ls (by simp only [su_wf, if_pos c46]; exact efr) hw (lv_sub hl [0, 1, 2, 3, 4, 5, 6] rfl)
      · skip
        refine lv_aload_n hx hb dd_M_works_44 rfl (lv_at hl 3 rfl) ?_
        refine pm_get (ci := 6) (C := cn_M) (T := cf_M) (N := 23) (v := .ref (ma 6)) hx hb hg gu_M hown hK.2.1 hw mw.1 rfl 8 (by decide) (hg _ gf_M_28) (fun _ h9 => h9) rfl dd_M_works_45 ?_
        refine lv_iconst (v := 3) hx hb dd_M_works_48 (by decide) ?_
        refine lv_iload_n hx hb dd_M_works_49 rfl (lv_at hl 4 rfl) ?_
        refine lv_imul hx hb dd_M_works_50 ?_
        refine lv_iload hx hb dd_M_works_51 (lv_at hl 0 rfl) ?_
        refine lv_iadd hx hb dd_M_works_53 ?_
        refine W.eq (g2 := F0 m 54 ls [.int (nI (3 * j + k)), .ref (ma 6)]) (by rw [show (((3 : Int32) * (nI j)) + (nI k)) = (nI (3 * j + k)) from by rw [show (3 : Int32) = nI 3 from rfl, nI_mul, nI_add]]) ?_
        refine pm_iald hx hb hK.2.1 hw 0 (show P (ma 6) = some (.inl (ac 0, 120, .inl (mv 6))) from mw.2.1 6 (by decide)) rfl (vp_in_nI (by omega) (by decide)) dd_M_works_54 ?_
        refine W.eq (g2 := F0 m 55 ls [.int (mv 6 (3 * j + k))]) (by rw [show ((mv 6) ((nI (3 * j + k)).toNatClampNeg)) = (mv 6 (3 * j + k)) from by rw [nI_clamp (by omega)]]) ?_
        refine lv_iload_n hx hb dd_M_works_55 rfl (lv_at hl 6 rfl) ?_
        refine lv_icmp_gt (tgt := 62) hx hb dd_M_works_56 (by decide) (fun c48 => ?_) (fun c48 => ?_)
        · skip
          obtain ⟨x49, ex49⟩ : ∃ y : Int32, y = (nI k) + 1 := ⟨_, rfl⟩
          refine lv_iinc (v := x49) (lv' := [(6, .int x49), (5, .int fr), (4, .int (1 : Int32)), (0, .ref h0), (1, .int (nI j)), (2, .int p2), (3, .int p3)]) hx hb dd_M_works_62 hl (k := 0) rfl (by rw [ex49]; rfl) (by decide) rfl (fun ls hl => ?_)
          refine lv_goto (tgt := 13) hx hb dd_M_works_65 (by decide) ?_
          have hi7 : x49 = nI (k + 1) := by rw [ex49]; exact nI_1 k
          rw [hi7] at hl
          exact ih (k + 1) (by omega) fr H _ ls (by simp only [su_wf, if_neg c46, if_pos c48]; exact efr) hw (lv_sub hl [0, 1, 2, 3, 4, 5, 6] rfl)
        · skip
          refine lv_iconst (v := 0) hx hb dd_M_works_59 (by decide) ?_
          refine lv_istore (lv' := [(5, .int (0 : Int32)), (6, .int (nI k)), (4, .int (1 : Int32)), (0, .ref h0), (1, .int (nI j)), (2, .int p2), (3, .int p3)]) hx hb dd_M_works_60 hl (by decide) rfl (fun ls hl => ?_)
          obtain ⟨x50, ex50⟩ : ∃ y : Int32, y = (nI k) + 1 := ⟨_, rfl⟩
          refine lv_iinc (v := x50) (lv' := [(6, .int x50), (5, .int (0 : Int32)), (4, .int (1 : Int32)), (0, .ref h0), (1, .int (nI j)), (2, .int p2), (3, .int p3)]) hx hb dd_M_works_62 hl (k := 1) rfl (by rw [ex50]; rfl) (by decide) rfl (fun ls hl => ?_)
          refine lv_goto (tgt := 13) hx hb dd_M_works_65 (by decide) ?_
          have hi7 : x50 = nI (k + 1) := by rw [ex50]; exact nI_1 k
          rw [hi7] at hl
          exact ih (k + 1) (by omega) (0 : Int32) H _ ls (by simp only [su_wf, if_neg c46, if_neg c48]) hw (lv_sub hl [0, 1, 2, 3, 4, 5, 6] rfl)
  refine lv_aload_n hx hb dd_M_works_0 rfl (lv_at hl 0 rfl) ?_
  refine lv_iload_n hx hb dd_M_works_1 rfl (lv_at hl 1 rfl) ?_
  refine cx_after (cx_rV (n := 1) (As := [.int (nI j)]) (rest := []) ⟨hx, hb, hml, hown, hg⟩ (c_M_isHydrant l z D ac sa P h0 ma mv th (nI n) al (nI t) so (nI j) mw) (cx_gv gm_M_95 gi_M_isHydrant gs_M_isHydrant gn_M gc_M_isHydrant) (by decide +kernel) ⟨by decide, by decide⟩ hK hw mw.1 rfl rfl hl.1 rfl (Nat.le_of_ble_eq_true rfl) dd_M_works_2 ⟨by decide, by decide⟩) hw (fun v9 P9 H locs hp hw => ?_)
  obtain ⟨rfl, e9⟩ := hp
  rw [e9] at hw
  clear e9 P9
  refine W.eq (g2 := F0 m 5 ls [.int (su_in (nI j) 0 ((nI n) - 1))]) rfl ?_
  refine W.eq (g2 := F0 m 5 ls [.int (1 : Int32)]) (by rw [show (su_in (nI j) 0 ((nI n) - 1)) = (1 : Int32) from su_hin_i hj (by omega)]) ?_
  refine lv_istore (lv' := [(4, .int (1 : Int32)), (0, .ref h0), (1, .int (nI j)), (2, .int p2), (3, .int p3)]) hx hb dd_M_works_5 hl (by decide) rfl (fun ls hl => ?_)
  refine lv_iconst (v := 1) hx hb dd_M_works_7 (by decide) ?_
  refine lv_istore (lv' := [(5, .int (1 : Int32)), (4, .int (1 : Int32)), (0, .ref h0), (1, .int (nI j)), (2, .int p2), (3, .int p3)]) hx hb dd_M_works_8 hl (by decide) rfl (fun ls hl => ?_)
  refine lv_iconst (v := 0) hx hb dd_M_works_10 (by decide) ?_
  refine lv_istore (lv' := [(6, .int (0 : Int32)), (5, .int (1 : Int32)), (4, .int (1 : Int32)), (0, .ref h0), (1, .int (nI j)), (2, .int p2), (3, .int p3)]) hx hb dd_M_works_11 hl (by decide) rfl (fun ls hl => ?_)
  exact lp w 0 (Nat.zero_add w) 1 _ _ ls rfl hw (lv_sub hl [0, 1, 2, 3, 4, 5, 6] rfl)

set_option maxHeartbeats 4000000 in
set_option maxRecDepth 100000 in
theorem c_M_seasonA (l : Launch) (z : Nat) (D : va_G) (ac : Nat → ClassId) (sa : Nat → Nat) (P : pm_T) (h0 : Nat) (ma : Nat → Nat) (mv : Nat → Nat → Int32) (th al so : Int32) (n t : Nat) (hn40 : n ≤ 40) (ht100 : t ≤ 100) (p1 p2 p3 : Int32) (hA : su_in p1 0 (nI n - 1) = 0) (mw : md_W P ac h0 ma mv th (nI n) al (nI t) so)  : cx_M l yy_M_season bb_M_season 4 none ({ frames := 3, cells := 0, slots := 0, locals := 90 } : Room) z D ac sa P [.ref h0, .int p1, .int p2, .int p3] (fun v P' => v = none ∧ md_W P' ac h0 ma mv 1 (nI n) al (nI t) so ∧ md_F P P' h0 ma) := by
  refine cx_ofM (by decide) (Nat.le_of_ble_eq_true rfl) (fun p e s m below meth c ls hx hb hr hml hg hown hlocks hin hK hw hl => ?_)
  have hl : lv_has ls 4 [(0, .ref h0), (1, .int p1), (2, .int p2), (3, .int p3)] := hl
  have hown : s.vm.findClass cn_M = some m.cls := hown
  refine lv_aload_n hx hb dd_M_season_0 rfl (lv_at hl 0 rfl) ?_
  refine lv_aload_n hx hb dd_M_season_1 rfl (lv_at hl 0 rfl) ?_
  refine lv_iload_n hx hb dd_M_season_2 rfl (lv_at hl 1 rfl) ?_
  refine cx_after (cx_rV (n := 1) (As := [.int p1]) (rest := [.ref h0]) ⟨hx, hb, hml, hown, hg⟩ (c_M_isHydrant l z D ac sa P h0 ma mv th (nI n) al (nI t) so p1 mw) (cx_gv gm_M_95 gi_M_isHydrant gs_M_isHydrant gn_M gc_M_isHydrant) (by decide +kernel) ⟨by decide, by decide⟩ hK hw mw.1 rfl rfl hl.1 rfl (Nat.le_of_ble_eq_true rfl) dd_M_season_3 ⟨by decide, by decide⟩) hw (fun v9 P9 H locs hp hw => ?_)
  obtain ⟨rfl, e9⟩ := hp
  rw [e9] at hw
  clear e9 P9
  refine W.eq (g2 := F0 m 6 ls [.int (su_in p1 0 ((nI n) - 1)), .ref h0]) rfl ?_
  refine W.eq (g2 := F0 m 6 ls [.int (0 : Int32), .ref h0]) (by rw [show (su_in p1 0 ((nI n) - 1)) = (0 : Int32) from hA]) ?_
  refine lv_iload_n hx hb dd_M_season_6 rfl (lv_at hl 2 rfl) ?_
  refine lv_iconst (v := 0) hx hb dd_M_season_7 (by decide) ?_
  refine lv_bipush (v := 11) hx hb dd_M_season_8 (by decide) ?_
  refine cx_after (cx_rS (n := 3) (As := [.int p2, .int (0 : Int32), .int (11 : Int32)]) (rest := [.int (0 : Int32), .ref h0]) ⟨hx, hb, hml, hown, hg⟩ (c_M_in l z D ac sa P p2 (0 : Int32) (11 : Int32)) (cx_gs gm_M_72 gt_M_in gn_M gc_M_in) (by decide +kernel) ⟨by decide, by decide⟩ hK hw rfl hl.1 rfl (Nat.le_of_ble_eq_true rfl) dd_M_season_10 ⟨by decide, by decide⟩) hw (fun v9 P9 H locs hp hw => ?_)
  obtain ⟨rfl, e9⟩ := hp
  rw [e9] at hw
  clear e9 P9
  refine W.eq (g2 := F0 m 13 ls [.int (su_in p2 (0 : Int32) (11 : Int32)), .int (0 : Int32), .ref h0]) rfl ?_
  refine lv_aload_n hx hb dd_M_season_13 rfl (lv_at hl 0 rfl) ?_
  refine lv_iload_n hx hb dd_M_season_14 rfl (lv_at hl 1 rfl) ?_
  refine cx_after (cx_rV (n := 1) (As := [.int p1]) (rest := [.int (su_in p2 (0 : Int32) (11 : Int32)), .int (0 : Int32), .ref h0]) ⟨hx, hb, hml, hown, hg⟩ (c_M_isHydrant l z D ac sa P h0 ma mv th (nI n) al (nI t) so p1 mw) (cx_gv gm_M_95 gi_M_isHydrant gs_M_isHydrant gn_M gc_M_isHydrant) (by decide +kernel) ⟨by decide, by decide⟩ hK hw mw.1 rfl rfl hl.1 rfl (Nat.le_of_ble_eq_true rfl) dd_M_season_15 ⟨by decide, by decide⟩) hw (fun v9 P9 H locs hp hw => ?_)
  obtain ⟨rfl, e9⟩ := hp
  rw [e9] at hw
  clear e9 P9
  refine W.eq (g2 := F0 m 18 ls [.int (su_in p1 0 ((nI n) - 1)), .int (su_in p2 (0 : Int32) (11 : Int32)), .int (0 : Int32), .ref h0]) rfl ?_
  refine W.eq (g2 := F0 m 18 ls [.int (0 : Int32), .int (su_in p2 (0 : Int32) (11 : Int32)), .int (0 : Int32), .ref h0]) (by rw [show (su_in p1 0 ((nI n) - 1)) = (0 : Int32) from hA]) ?_
  refine lv_if_eq (tgt := 35) hx hb dd_M_season_18 (by decide) (fun c31 => ?_) (fun c31 => absurd (by decide) c31)
  refine lv_iconst (v := 0) hx hb dd_M_season_35 (by decide) ?_
  refine lv_iconst (v := 1) hx hb dd_M_season_36 (by decide) ?_
  refine cx_after (cx_rV (n := 4) (As := [.int (0 : Int32), .int (su_in p2 (0 : Int32) (11 : Int32)), .int (0 : Int32), .int (1 : Int32)]) (rest := []) ⟨hx, hb, hml, hown, hg⟩ (c_M_goes l z D ac sa P h0 ma mv th (nI n) al (nI t) so (0 : Int32) (su_in p2 (0 : Int32) (11 : Int32)) (0 : Int32) (1 : Int32) mw) (cx_gv gm_M_83 gi_M_goes gs_M_goes gn_M gc_M_goes) (by decide +kernel) ⟨by decide, by decide⟩ hK hw mw.1 rfl rfl hl.1 rfl (Nat.le_of_ble_eq_true rfl) dd_M_season_37 ⟨by decide, by decide⟩) hw (fun v9 P9 H locs hp hw => ?_)
  obtain ⟨rfl, e9⟩ := hp
  rw [e9] at hw
  clear e9 P9
  refine W.eq (g2 := F0 m 40 ls [.int (if (su_gs (0 : Int32) (su_in p2 (0 : Int32) (11 : Int32)) (0 : Int32) (1 : Int32)) = 0 then 1 else 0)]) rfl ?_
  obtain ⟨P32, eP32⟩ : ∃ pmv : pm_T, pmv = pm_up P h0 (md_o ma (su_gs (0 : Int32) (su_in p2 (0 : Int32) (11 : Int32)) (0 : Int32) (1 : Int32)) (nI n) al (nI t) so) := ⟨_, rfl⟩
  have hw : pm_W z D cl_w (pm_up P h0 (md_o ma (su_gs (0 : Int32) (su_in p2 (0 : Int32) (11 : Int32)) (0 : Int32) (1 : Int32)) (nI n) al (nI t) so)) s.heap H _ := hw
  rw [← eP32] at hw
  have mwP32 : md_W P32 ac h0 ma mv (su_gs (0 : Int32) (su_in p2 (0 : Int32) (11 : Int32)) (0 : Int32) (1 : Int32)) (nI n) al (nI t) so := by rw [eP32]; exact md_W.obj mw
  have mfP32 : md_F P P32 h0 ma := by rw [eP32]; exact md_F.obj md_F.rf
  refine W.eq (g2 := F0 m 40 ls [.int (0 : Int32)]) (by rw [show (if (su_gs (0 : Int32) (su_in p2 (0 : Int32) (11 : Int32)) (0 : Int32) (1 : Int32)) = 0 then 1 else 0) = (0 : Int32) from if_neg (fun h8 => (su_gs0 h8).1 rfl)]) ?_
  refine lv_if_eq (tgt := 55) hx hb dd_M_season_40 (by decide) (fun c33 => ?_) (fun c33 => absurd (by decide) c33)
  refine cx_vret hx hb hr hlocks hw dd_M_season_55 (by decide) (by decide) ?_
  exact ⟨rfl, by have h7 := mwP32; rw [show (su_gs (0 : Int32) (su_in p2 (0 : Int32) (11 : Int32)) (0 : Int32) (1 : Int32)) = 1 from by simp [su_gs]] at h7; exact h7, mfP32⟩

set_option maxHeartbeats 4000000 in
set_option maxRecDepth 100000 in
theorem c_M_seasonB (l : Launch) (z : Nat) (D : va_G) (ac : Nat → ClassId) (sa : Nat → Nat) (P : pm_T) (h0 : Nat) (ma : Nat → Nat) (mv : Nat → Nat → Int32) (th al so : Int32) (n t : Nat) (hn40 : n ≤ 40) (ht100 : t ≤ 100) (j : Nat) (hj : j < n) (p2 p3 : Int32) (hB : su_in p2 0 11 = 0) (mw : md_W P ac h0 ma mv th (nI n) al (nI t) so)  : cx_M l yy_M_season bb_M_season 4 none ({ frames := 3, cells := 0, slots := 0, locals := 90 } : Room) z D ac sa P [.ref h0, .int (nI j), .int p2, .int p3] (fun v P' => v = none ∧ md_W P' ac h0 ma mv 2 (nI n) al (nI t) so ∧ md_F P P' h0 ma) := by
  refine cx_ofM (by decide) (Nat.le_of_ble_eq_true rfl) (fun p e s m below meth c ls hx hb hr hml hg hown hlocks hin hK hw hl => ?_)
  have hl : lv_has ls 4 [(0, .ref h0), (1, .int (nI j)), (2, .int p2), (3, .int p3)] := hl
  have hown : s.vm.findClass cn_M = some m.cls := hown
  have j36 : ∀ (H : Heap) (locs : List Loc) (ls : Array Slot), pm_W z D cl_w P s.heap H locs → lv_has ls 4 [(0, .ref h0), (1, .int (nI j)), (2, .int p2), (3, .int p3)] → W p l e ({ frames := 3, cells := 0, slots := 0, locals := 90 } : Room) s m ([.ref h0, .int (nI j), .int p2, .int p3] : List Value).toArray below meth c H locs 0 0 (MQ below (cx_Q z D (fun v P' => v = none ∧ md_W P' ac h0 ma mv 2 (nI n) al (nI t) so ∧ md_F P P' h0 ma)) ([.ref h0, .int (nI j), .int p2, .int p3] : List Value).toArray s ({ frames := 3, cells := 0, slots := 0, locals := 90 } : Room).cells ({ frames := 3, cells := 0, slots := 0, locals := 90 } : Room).slots (pm_A z)) (F0 m 36 ls [.int (su_eq (mv 3 j) 2), .int (0 : Int32), .int (1 : Int32), .ref h0]) := by
    intro H locs ls hw hl
    refine lv_iconst (v := 1) hx hb dd_M_season_36 (by decide) ?_
    refine cx_after (cx_rV (n := 4) (As := [.int (1 : Int32), .int (0 : Int32), .int (su_eq (mv 3 j) 2), .int (1 : Int32)]) (rest := []) ⟨hx, hb, hml, hown, hg⟩ (c_M_goes l z D ac sa P h0 ma mv th (nI n) al (nI t) so (1 : Int32) (0 : Int32) (su_eq (mv 3 j) 2) (1 : Int32) mw) (cx_gv gm_M_83 gi_M_goes gs_M_goes gn_M gc_M_goes) (by decide +kernel) ⟨by decide, by decide⟩ hK hw mw.1 rfl rfl hl.1 rfl (Nat.le_of_ble_eq_true rfl) dd_M_season_37 ⟨by decide, by decide⟩) hw (fun v9 P9 H locs hp hw => ?_)
    obtain ⟨rfl, e9⟩ := hp
    rw [e9] at hw
    clear e9 P9
    refine W.eq (g2 := F0 m 40 ls [.int (if (su_gs (1 : Int32) (0 : Int32) (su_eq (mv 3 j) 2) (1 : Int32)) = 0 then 1 else 0)]) rfl ?_
    obtain ⟨P35, eP35⟩ : ∃ pmv : pm_T, pmv = pm_up P h0 (md_o ma (su_gs (1 : Int32) (0 : Int32) (su_eq (mv 3 j) 2) (1 : Int32)) (nI n) al (nI t) so) := ⟨_, rfl⟩
    have hw : pm_W z D cl_w (pm_up P h0 (md_o ma (su_gs (1 : Int32) (0 : Int32) (su_eq (mv 3 j) 2) (1 : Int32)) (nI n) al (nI t) so)) s.heap H _ := hw
    rw [← eP35] at hw
    have mwP35 : md_W P35 ac h0 ma mv (su_gs (1 : Int32) (0 : Int32) (su_eq (mv 3 j) 2) (1 : Int32)) (nI n) al (nI t) so := by rw [eP35]; exact md_W.obj mw
    have mfP35 : md_F P P35 h0 ma := by rw [eP35]; exact md_F.obj md_F.rf
    refine W.eq (g2 := F0 m 40 ls [.int (0 : Int32)]) (by rw [show (if (su_gs (1 : Int32) (0 : Int32) (su_eq (mv 3 j) 2) (1 : Int32)) = 0 then 1 else 0) = (0 : Int32) from if_neg (fun h8 => (su_gs0 h8).2.1 rfl)]) ?_
    refine lv_if_eq (tgt := 55) hx hb dd_M_season_40 (by decide) (fun c36 => ?_) (fun c36 => absurd (by decide) c36)
    refine cx_vret hx hb hr hlocks hw dd_M_season_55 (by decide) (by decide) ?_
    exact ⟨rfl, by have h7 := mwP35; rw [show (su_gs (1 : Int32) (0 : Int32) (su_eq (mv 3 j) 2) (1 : Int32)) = 2 from by simp [su_gs]] at h7; exact h7, mfP35⟩
  refine lv_aload_n hx hb dd_M_season_0 rfl (lv_at hl 0 rfl) ?_
  refine lv_aload_n hx hb dd_M_season_1 rfl (lv_at hl 0 rfl) ?_
  refine lv_iload_n hx hb dd_M_season_2 rfl (lv_at hl 1 rfl) ?_
  refine cx_after (cx_rV (n := 1) (As := [.int (nI j)]) (rest := [.ref h0]) ⟨hx, hb, hml, hown, hg⟩ (c_M_isHydrant l z D ac sa P h0 ma mv th (nI n) al (nI t) so (nI j) mw) (cx_gv gm_M_95 gi_M_isHydrant gs_M_isHydrant gn_M gc_M_isHydrant) (by decide +kernel) ⟨by decide, by decide⟩ hK hw mw.1 rfl rfl hl.1 rfl (Nat.le_of_ble_eq_true rfl) dd_M_season_3 ⟨by decide, by decide⟩) hw (fun v9 P9 H locs hp hw => ?_)
  obtain ⟨rfl, e9⟩ := hp
  rw [e9] at hw
  clear e9 P9
  refine W.eq (g2 := F0 m 6 ls [.int (su_in (nI j) 0 ((nI n) - 1)), .ref h0]) rfl ?_
  refine W.eq (g2 := F0 m 6 ls [.int (1 : Int32), .ref h0]) (by rw [show (su_in (nI j) 0 ((nI n) - 1)) = (1 : Int32) from su_hin_i hj (by omega)]) ?_
  refine lv_iload_n hx hb dd_M_season_6 rfl (lv_at hl 2 rfl) ?_
  refine lv_iconst (v := 0) hx hb dd_M_season_7 (by decide) ?_
  refine lv_bipush (v := 11) hx hb dd_M_season_8 (by decide) ?_
  refine cx_after (cx_rS (n := 3) (As := [.int p2, .int (0 : Int32), .int (11 : Int32)]) (rest := [.int (1 : Int32), .ref h0]) ⟨hx, hb, hml, hown, hg⟩ (c_M_in l z D ac sa P p2 (0 : Int32) (11 : Int32)) (cx_gs gm_M_72 gt_M_in gn_M gc_M_in) (by decide +kernel) ⟨by decide, by decide⟩ hK hw rfl hl.1 rfl (Nat.le_of_ble_eq_true rfl) dd_M_season_10 ⟨by decide, by decide⟩) hw (fun v9 P9 H locs hp hw => ?_)
  obtain ⟨rfl, e9⟩ := hp
  rw [e9] at hw
  clear e9 P9
  refine W.eq (g2 := F0 m 13 ls [.int (su_in p2 (0 : Int32) (11 : Int32)), .int (1 : Int32), .ref h0]) rfl ?_
  refine W.eq (g2 := F0 m 13 ls [.int (0 : Int32), .int (1 : Int32), .ref h0]) (by rw [show (su_in p2 (0 : Int32) (11 : Int32)) = (0 : Int32) from hB]) ?_
  refine lv_aload_n hx hb dd_M_season_13 rfl (lv_at hl 0 rfl) ?_
  refine lv_iload_n hx hb dd_M_season_14 rfl (lv_at hl 1 rfl) ?_
  refine cx_after (cx_rV (n := 1) (As := [.int (nI j)]) (rest := [.int (0 : Int32), .int (1 : Int32), .ref h0]) ⟨hx, hb, hml, hown, hg⟩ (c_M_isHydrant l z D ac sa P h0 ma mv th (nI n) al (nI t) so (nI j) mw) (cx_gv gm_M_95 gi_M_isHydrant gs_M_isHydrant gn_M gc_M_isHydrant) (by decide +kernel) ⟨by decide, by decide⟩ hK hw mw.1 rfl rfl hl.1 rfl (Nat.le_of_ble_eq_true rfl) dd_M_season_15 ⟨by decide, by decide⟩) hw (fun v9 P9 H locs hp hw => ?_)
  obtain ⟨rfl, e9⟩ := hp
  rw [e9] at hw
  clear e9 P9
  refine W.eq (g2 := F0 m 18 ls [.int (su_in (nI j) 0 ((nI n) - 1)), .int (0 : Int32), .int (1 : Int32), .ref h0]) rfl ?_
  refine W.eq (g2 := F0 m 18 ls [.int (1 : Int32), .int (0 : Int32), .int (1 : Int32), .ref h0]) (by rw [show (su_in (nI j) 0 ((nI n) - 1)) = (1 : Int32) from su_hin_i hj (by omega)]) ?_
  refine lv_if_eq (tgt := 35) hx hb dd_M_season_18 (by decide) (fun c37 => absurd c37 (by decide)) (fun c37 => ?_)
  refine lv_aload_n hx hb dd_M_season_21 rfl (lv_at hl 0 rfl) ?_
  refine pm_get (ci := 6) (C := cn_M) (T := cf_M) (N := 23) (v := .ref (ma 3)) hx hb hg gu_M hown hK.2.1 hw mw.1 rfl 5 (by decide) (hg _ gf_M_19) (fun _ h9 => h9) rfl dd_M_season_22 ?_
  refine lv_iload_n hx hb dd_M_season_25 rfl (lv_at hl 1 rfl) ?_
  refine pm_iald hx hb hK.2.1 hw 0 (show P (ma 3) = some (.inl (ac 0, 40, .inl (mv 3))) from mw.2.1 3 (by decide)) rfl (vp_in_nI (by omega) (by decide)) dd_M_season_26 ?_
  refine W.eq (g2 := F0 m 27 ls [.int (mv 3 j), .int (0 : Int32), .int (1 : Int32), .ref h0]) (by rw [show ((mv 3) ((nI j).toNatClampNeg)) = (mv 3 j) from by rw [nI_clamp (by omega)]]) ?_
  refine lv_iconst (v := 2) hx hb dd_M_season_27 (by decide) ?_
  refine lv_icmp_ne (tgt := 35) hx hb dd_M_season_28 (by decide) (fun c38 => ?_) (fun c38 => ?_)
  · skip
    refine lv_iconst (v := 0) hx hb dd_M_season_35 (by decide) ?_
    refine W.eq (g2 := F0 m 36 ls [.int (su_eq (mv 3 j) 2), .int (0 : Int32), .int (1 : Int32), .ref h0]) (by rw [show (su_eq (mv 3 j) 2) = (0 : Int32) from by rw [su_eq, if_neg c38]]) ?_
    exact j36 _ _ ls hw (lv_sub hl [0, 1, 2, 3] rfl)
  · skip
    refine lv_iconst (v := 1) hx hb dd_M_season_31 (by decide) ?_
    refine lv_goto (tgt := 36) hx hb dd_M_season_32 (by decide) ?_
    refine W.eq (g2 := F0 m 36 ls [.int (su_eq (mv 3 j) 2), .int (0 : Int32), .int (1 : Int32), .ref h0]) (by rw [show (su_eq (mv 3 j) 2) = (1 : Int32) from by rw [su_eq, if_pos c38]]) ?_
    exact j36 _ _ ls hw (lv_sub hl [0, 1, 2, 3] rfl)

set_option maxHeartbeats 4000000 in
set_option maxRecDepth 100000 in
theorem c_M_seasonC (l : Launch) (z : Nat) (D : va_G) (ac : Nat → ClassId) (sa : Nat → Nat) (P : pm_T) (h0 : Nat) (ma : Nat → Nat) (mv : Nat → Nat → Int32) (th al so : Int32) (n t : Nat) (hn40 : n ≤ 40) (ht100 : t ≤ 100) (j : Nat) (hj : j < n) (m9 : Nat) (hm9 : m9 ≤ 11) (p3 : Int32) (hp3 : p3 = 0 ∨ p3 = 1) (mw : md_W P ac h0 ma mv th (nI n) al (nI t) so)  : cx_M l yy_M_season bb_M_season 4 none ({ frames := 3, cells := 0, slots := 0, locals := 90 } : Room) z D ac sa P [.ref h0, .int (nI j), .int (nI m9), .int p3] (fun v P' => ((su_gs 1 1 (su_eq (mv 3 j) 2) 1) = 0 → v = none ∧ md_W P' ac h0 ma (va_up mv 8 (upd (mv 8) (12 * j + m9) p3)) (su_gs 1 1 (su_eq (mv 3 j) 2) 1) (nI n) al (nI t) so) ∧ (¬ (su_gs 1 1 (su_eq (mv 3 j) 2) 1) = 0 → v = none ∧ md_W P' ac h0 ma mv (su_gs 1 1 (su_eq (mv 3 j) 2) 1) (nI n) al (nI t) so) ∧ md_F P P' h0 ma) := by
  refine cx_ofM (by decide) (Nat.le_of_ble_eq_true rfl) (fun p e s m below meth c ls hx hb hr hml hg hown hlocks hin hK hw hl => ?_)
  have hl : lv_has ls 4 [(0, .ref h0), (1, .int (nI j)), (2, .int (nI m9)), (3, .int p3)] := hl
  have hown : s.vm.findClass cn_M = some m.cls := hown
  have j36 : ∀ (H : Heap) (locs : List Loc) (ls : Array Slot), pm_W z D cl_w P s.heap H locs → lv_has ls 4 [(0, .ref h0), (1, .int (nI j)), (2, .int (nI m9)), (3, .int p3)] → W p l e ({ frames := 3, cells := 0, slots := 0, locals := 90 } : Room) s m ([.ref h0, .int (nI j), .int (nI m9), .int p3] : List Value).toArray below meth c H locs 0 0 (MQ below (cx_Q z D (fun v P' => ((su_gs 1 1 (su_eq (mv 3 j) 2) 1) = 0 → v = none ∧ md_W P' ac h0 ma (va_up mv 8 (upd (mv 8) (12 * j + m9) p3)) (su_gs 1 1 (su_eq (mv 3 j) 2) 1) (nI n) al (nI t) so) ∧ (¬ (su_gs 1 1 (su_eq (mv 3 j) 2) 1) = 0 → v = none ∧ md_W P' ac h0 ma mv (su_gs 1 1 (su_eq (mv 3 j) 2) 1) (nI n) al (nI t) so) ∧ md_F P P' h0 ma)) ([.ref h0, .int (nI j), .int (nI m9), .int p3] : List Value).toArray s ({ frames := 3, cells := 0, slots := 0, locals := 90 } : Room).cells ({ frames := 3, cells := 0, slots := 0, locals := 90 } : Room).slots (pm_A z)) (F0 m 36 ls [.int (su_eq (mv 3 j) 2), .int (1 : Int32), .int (1 : Int32), .ref h0]) := by
    intro H locs ls hw hl
    refine lv_iconst (v := 1) hx hb dd_M_season_36 (by decide) ?_
    refine cx_after (cx_rV (n := 4) (As := [.int (1 : Int32), .int (1 : Int32), .int (su_eq (mv 3 j) 2), .int (1 : Int32)]) (rest := []) ⟨hx, hb, hml, hown, hg⟩ (c_M_goes l z D ac sa P h0 ma mv th (nI n) al (nI t) so (1 : Int32) (1 : Int32) (su_eq (mv 3 j) 2) (1 : Int32) mw) (cx_gv gm_M_83 gi_M_goes gs_M_goes gn_M gc_M_goes) (by decide +kernel) ⟨by decide, by decide⟩ hK hw mw.1 rfl rfl hl.1 rfl (Nat.le_of_ble_eq_true rfl) dd_M_season_37 ⟨by decide, by decide⟩) hw (fun v9 P9 H locs hp hw => ?_)
    obtain ⟨rfl, e9⟩ := hp
    rw [e9] at hw
    clear e9 P9
    refine W.eq (g2 := F0 m 40 ls [.int (if (su_gs (1 : Int32) (1 : Int32) (su_eq (mv 3 j) 2) (1 : Int32)) = 0 then 1 else 0)]) rfl ?_
    obtain ⟨P36, eP36⟩ : ∃ pmv : pm_T, pmv = pm_up P h0 (md_o ma (su_gs (1 : Int32) (1 : Int32) (su_eq (mv 3 j) 2) (1 : Int32)) (nI n) al (nI t) so) := ⟨_, rfl⟩
    have hw : pm_W z D cl_w (pm_up P h0 (md_o ma (su_gs (1 : Int32) (1 : Int32) (su_eq (mv 3 j) 2) (1 : Int32)) (nI n) al (nI t) so)) s.heap H _ := hw
    rw [← eP36] at hw
    have mwP36 : md_W P36 ac h0 ma mv (su_gs (1 : Int32) (1 : Int32) (su_eq (mv 3 j) 2) (1 : Int32)) (nI n) al (nI t) so := by rw [eP36]; exact md_W.obj mw
    have mfP36 : md_F P P36 h0 ma := by rw [eP36]; exact md_F.obj md_F.rf
    refine lv_if_eq (tgt := 55) hx hb dd_M_season_40 (by decide) (fun c37 => ?_) (fun c37 => ?_)
    · skip
      refine cx_vret hx hb hr hlocks hw dd_M_season_55 (by decide) (by decide) ?_
      exact ⟨fun h8 => absurd h8 (su_iz c37), fun _ => ⟨rfl, mwP36⟩, mfP36⟩
    · skip
      refine lv_aload_n hx hb dd_M_season_43 rfl (lv_at hl 0 rfl) ?_
      refine pm_get (ci := 6) (C := cn_M) (T := cf_M) (N := 23) (v := .ref (ma 8)) hx hb hg gu_M hown hK.2.1 hw mwP36.1 rfl 10 (by decide) (hg _ gf_M_34) (fun _ h9 => h9) rfl dd_M_season_44 ?_
      refine lv_bipush (v := 12) hx hb dd_M_season_47 (by decide) ?_
      refine lv_iload_n hx hb dd_M_season_49 rfl (lv_at hl 1 rfl) ?_
      refine lv_imul hx hb dd_M_season_50 ?_
      refine lv_iload_n hx hb dd_M_season_51 rfl (lv_at hl 2 rfl) ?_
      refine lv_iadd hx hb dd_M_season_52 ?_
      refine W.eq (g2 := F0 m 53 ls [.int (nI (12 * j + m9)), .ref (ma 8)]) (by rw [show (((12 : Int32) * (nI j)) + (nI m9)) = (nI (12 * j + m9)) from by rw [show (12 : Int32) = nI 12 from rfl, nI_mul, nI_add]]) ?_
      refine lv_iload_n hx hb dd_M_season_53 rfl (lv_at hl 3 rfl) ?_
      refine pm_zast (x := p3) hx hb hK.2.1 hw 2 (show P36 (ma 8) = some (.inl (ac 2, 480, .inl (mv 8))) from mwP36.2.1 8 (by decide)) rfl (vp_in_nI (by omega) (by decide)) dd_M_season_54 (fun H locs hw => ?_)
      obtain ⟨P38, eP38⟩ : ∃ pmv : pm_T, pmv = pm_up P36 (ma 8) (md_a ac 8 (upd (mv 8) ((nI (12 * j + m9)).toNatClampNeg) (vp_nar .boolean p3))) := ⟨_, rfl⟩
      have hw : pm_W z D cl_w (pm_up P36 (ma 8) (md_a ac 8 (upd (mv 8) ((nI (12 * j + m9)).toNatClampNeg) (vp_nar .boolean p3)))) s.heap H _ := hw
      rw [← eP38] at hw
      have mwP38 : md_W P38 ac h0 ma (va_up mv 8 (upd (mv 8) ((nI (12 * j + m9)).toNatClampNeg) (vp_nar .boolean p3))) (su_gs (1 : Int32) (1 : Int32) (su_eq (mv 3 j) 2) (1 : Int32)) (nI n) al (nI t) so := by rw [eP38]; exact md_W.put mwP36 8 (by decide)
      have mfP38 : md_F P P38 h0 ma := by rw [eP38]; exact md_F.put (by decide) mfP36
      refine cx_vret hx hb hr hlocks hw dd_M_season_55 (by decide) (by decide) ?_
      have hn3 : vp_nar .boolean p3 = p3 := by rcases hp3 with h | h <;> rw [h] <;> decide
      rw [hn3, nI_clamp (show 12 * j + m9 < 2 ^ 31 by omega)] at mwP38
      exact ⟨fun _ => ⟨rfl, mwP38⟩, fun h8 => absurd (su_nz c37) h8, mfP38⟩
  refine lv_aload_n hx hb dd_M_season_0 rfl (lv_at hl 0 rfl) ?_
  refine lv_aload_n hx hb dd_M_season_1 rfl (lv_at hl 0 rfl) ?_
  refine lv_iload_n hx hb dd_M_season_2 rfl (lv_at hl 1 rfl) ?_
  refine cx_after (cx_rV (n := 1) (As := [.int (nI j)]) (rest := [.ref h0]) ⟨hx, hb, hml, hown, hg⟩ (c_M_isHydrant l z D ac sa P h0 ma mv th (nI n) al (nI t) so (nI j) mw) (cx_gv gm_M_95 gi_M_isHydrant gs_M_isHydrant gn_M gc_M_isHydrant) (by decide +kernel) ⟨by decide, by decide⟩ hK hw mw.1 rfl rfl hl.1 rfl (Nat.le_of_ble_eq_true rfl) dd_M_season_3 ⟨by decide, by decide⟩) hw (fun v9 P9 H locs hp hw => ?_)
  obtain ⟨rfl, e9⟩ := hp
  rw [e9] at hw
  clear e9 P9
  refine W.eq (g2 := F0 m 6 ls [.int (su_in (nI j) 0 ((nI n) - 1)), .ref h0]) rfl ?_
  refine W.eq (g2 := F0 m 6 ls [.int (1 : Int32), .ref h0]) (by rw [show (su_in (nI j) 0 ((nI n) - 1)) = (1 : Int32) from su_hin_i hj (by omega)]) ?_
  refine lv_iload_n hx hb dd_M_season_6 rfl (lv_at hl 2 rfl) ?_
  refine lv_iconst (v := 0) hx hb dd_M_season_7 (by decide) ?_
  refine lv_bipush (v := 11) hx hb dd_M_season_8 (by decide) ?_
  refine cx_after (cx_rS (n := 3) (As := [.int (nI m9), .int (0 : Int32), .int (11 : Int32)]) (rest := [.int (1 : Int32), .ref h0]) ⟨hx, hb, hml, hown, hg⟩ (c_M_in l z D ac sa P (nI m9) (0 : Int32) (11 : Int32)) (cx_gs gm_M_72 gt_M_in gn_M gc_M_in) (by decide +kernel) ⟨by decide, by decide⟩ hK hw rfl hl.1 rfl (Nat.le_of_ble_eq_true rfl) dd_M_season_10 ⟨by decide, by decide⟩) hw (fun v9 P9 H locs hp hw => ?_)
  obtain ⟨rfl, e9⟩ := hp
  rw [e9] at hw
  clear e9 P9
  refine W.eq (g2 := F0 m 13 ls [.int (su_in (nI m9) (0 : Int32) (11 : Int32)), .int (1 : Int32), .ref h0]) rfl ?_
  refine W.eq (g2 := F0 m 13 ls [.int (1 : Int32), .int (1 : Int32), .ref h0]) (by rw [show (su_in (nI m9) (0 : Int32) (11 : Int32)) = (1 : Int32) from su_in_1 (b := 11) (by decide) hm9 rfl]) ?_
  refine lv_aload_n hx hb dd_M_season_13 rfl (lv_at hl 0 rfl) ?_
  refine lv_iload_n hx hb dd_M_season_14 rfl (lv_at hl 1 rfl) ?_
  refine cx_after (cx_rV (n := 1) (As := [.int (nI j)]) (rest := [.int (1 : Int32), .int (1 : Int32), .ref h0]) ⟨hx, hb, hml, hown, hg⟩ (c_M_isHydrant l z D ac sa P h0 ma mv th (nI n) al (nI t) so (nI j) mw) (cx_gv gm_M_95 gi_M_isHydrant gs_M_isHydrant gn_M gc_M_isHydrant) (by decide +kernel) ⟨by decide, by decide⟩ hK hw mw.1 rfl rfl hl.1 rfl (Nat.le_of_ble_eq_true rfl) dd_M_season_15 ⟨by decide, by decide⟩) hw (fun v9 P9 H locs hp hw => ?_)
  obtain ⟨rfl, e9⟩ := hp
  rw [e9] at hw
  clear e9 P9
  refine W.eq (g2 := F0 m 18 ls [.int (su_in (nI j) 0 ((nI n) - 1)), .int (1 : Int32), .int (1 : Int32), .ref h0]) rfl ?_
  refine W.eq (g2 := F0 m 18 ls [.int (1 : Int32), .int (1 : Int32), .int (1 : Int32), .ref h0]) (by rw [show (su_in (nI j) 0 ((nI n) - 1)) = (1 : Int32) from su_hin_i hj (by omega)]) ?_
  refine lv_if_eq (tgt := 35) hx hb dd_M_season_18 (by decide) (fun c39 => absurd c39 (by decide)) (fun c39 => ?_)
  refine lv_aload_n hx hb dd_M_season_21 rfl (lv_at hl 0 rfl) ?_
  refine pm_get (ci := 6) (C := cn_M) (T := cf_M) (N := 23) (v := .ref (ma 3)) hx hb hg gu_M hown hK.2.1 hw mw.1 rfl 5 (by decide) (hg _ gf_M_19) (fun _ h9 => h9) rfl dd_M_season_22 ?_
  refine lv_iload_n hx hb dd_M_season_25 rfl (lv_at hl 1 rfl) ?_
  refine pm_iald hx hb hK.2.1 hw 0 (show P (ma 3) = some (.inl (ac 0, 40, .inl (mv 3))) from mw.2.1 3 (by decide)) rfl (vp_in_nI (by omega) (by decide)) dd_M_season_26 ?_
  refine W.eq (g2 := F0 m 27 ls [.int (mv 3 j), .int (1 : Int32), .int (1 : Int32), .ref h0]) (by rw [show ((mv 3) ((nI j).toNatClampNeg)) = (mv 3 j) from by rw [nI_clamp (by omega)]]) ?_
  refine lv_iconst (v := 2) hx hb dd_M_season_27 (by decide) ?_
  refine lv_icmp_ne (tgt := 35) hx hb dd_M_season_28 (by decide) (fun c40 => ?_) (fun c40 => ?_)
  · skip
    refine lv_iconst (v := 0) hx hb dd_M_season_35 (by decide) ?_
    refine W.eq (g2 := F0 m 36 ls [.int (su_eq (mv 3 j) 2), .int (1 : Int32), .int (1 : Int32), .ref h0]) (by rw [show (su_eq (mv 3 j) 2) = (0 : Int32) from by rw [su_eq, if_neg c40]]) ?_
    exact j36 _ _ ls hw (lv_sub hl [0, 1, 2, 3] rfl)
  · skip
    refine lv_iconst (v := 1) hx hb dd_M_season_31 (by decide) ?_
    refine lv_goto (tgt := 36) hx hb dd_M_season_32 (by decide) ?_
    refine W.eq (g2 := F0 m 36 ls [.int (su_eq (mv 3 j) 2), .int (1 : Int32), .int (1 : Int32), .ref h0]) (by rw [show (su_eq (mv 3 j) 2) = (1 : Int32) from by rw [su_eq, if_pos c40]]) ?_
    exact j36 _ _ ls hw (lv_sub hl [0, 1, 2, 3] rfl)
