theorem vp_in_lt {x : Int32} (h1 : ¬ x < 0) (h2 : x < 3) : vp_in x 3 := by
  rw [vp_in_iff]
  rw [Int32.lt_iff_toInt_lt] at h1 h2
  have e0 : (0 : Int32).toInt = 0 := by decide
  have e3 : (3 : Int32).toInt = 3 := by decide
  rw [e0] at h1
  rw [e3] at h2
  omega
theorem vp_in_ge {x : Int32} {n : Nat} (hn : n < 2 ^ 31) (h1 : ¬ x < 0) (h2 : ¬ nI n ≤ x) : vp_in x n := by
  obtain ⟨j, hj, rfl⟩ := nI_of h1
  refine vp_in_nI ?_ hn
  rcases Nat.lt_or_ge j n with h | h
  · exact h
  · exact absurd (nI_le h hj) h2
theorem vp_in_lg {x : Int32} {n : Nat} (hn : n < 2 ^ 31) (h1 : ¬ x < 0) (h2 : x < nI n) : vp_in x n := by
  obtain ⟨j, hj, rfl⟩ := nI_of h1
  refine vp_in_nI ?_ hn
  rcases Nat.lt_or_ge j n with h | h
  · exact h
  · exact absurd h2 (nI_nlt h hj)

set_option maxHeartbeats 4000000 in
set_option maxRecDepth 100000 in
theorem c_T_init (l : Launch) (z : Nat) (D : va_G) (ac : Nat → ClassId) (sa : Nat → Nat) (P : pm_T) (h0 : Nat) (p1 p2 p3 p4 p5 p6 : Int32) (f0 : P h0 = some (.inr (2, [.int 0, .int 0, .int 0, .int 0, .int 0, .int 0]))) : cx_M l yy_T_init bb_T_init 7 none ({ frames := 1, cells := 0, slots := 0, locals := 12 } : Room) z D ac sa P [.ref h0, .int p1, .int p2, .int p3, .int p4, .int p5, .int p6] (fun v P' => v = none ∧ P' = pm_up P h0 (.inr (2, [.int p1, .int p2, .int p3, .int p4, .int p5, .int p6]))) := by
  refine cx_ofM (by decide) (Nat.le_of_ble_eq_true rfl) (fun p e s m below meth c ls hx hb hr hml hg hown hlocks hin hK hw hl => ?_)
  have hl : lv_has ls 7 [(0, .ref h0), (1, .int p1), (2, .int p2), (3, .int p3), (4, .int p4), (5, .int p5), (6, .int p6)] := hl
  have hown : s.vm.findClass cn_T = some m.cls := hown
  refine lv_aload_n hx hb dd_T_init_0 rfl (lv_at hl 0 rfl) ?_
  refine W.objInit hx hb hown (hg _ gm_T_1) (hg _ gi_objectInit) (hg _ gc_objectInit) rfl (by rw [hml]; exact hl.1) rfl dd_T_init_1 (Nat.le_of_ble_eq_true rfl) (Nat.le_of_ble_eq_true rfl) ?_
  refine W.eq (g2 := F0 m 4 ls []) rfl ?_
  refine lv_aload_n hx hb dd_T_init_4 rfl (lv_at hl 0 rfl) ?_
  refine lv_iload_n hx hb dd_T_init_5 rfl (lv_at hl 1 rfl) ?_
  refine pm_putF (ci := 2) (v := .int p1) (ty := .int) (C := cn_T) (T := cf_T) (N := 6) hx hb hg gu_T ct_T co_T cm_T hown hK.2.1 hw f0 rfl 0 (by decide) (hg _ gf_T_7) (fun _ h9 => h9) rfl hin rfl (by decide +kernel) rfl rfl (Nat.le_of_ble_eq_true rfl) dd_T_init_6 (fun H locs hw => ?_)
  have hw : pm_W z D cl_w (pm_up P h0 (.inr (2, [.int p1, .int 0, .int 0, .int 0, .int 0, .int 0]))) s.heap H _ := hw
  obtain ⟨P1, eP1⟩ : ∃ pmv : pm_T, pmv = pm_up P h0 (.inr (2, [.int p1, .int 0, .int 0, .int 0, .int 0, .int 0])) := ⟨_, rfl⟩
  rw [← eP1] at hw
  have f2 : P1 h0 = some (.inr (2, [.int p1, .int 0, .int 0, .int 0, .int 0, .int 0])) := by rw [eP1]; exact pm_s
  refine lv_aload_n hx hb dd_T_init_9 rfl (lv_at hl 0 rfl) ?_
  refine lv_iload_n hx hb dd_T_init_10 rfl (lv_at hl 2 rfl) ?_
  refine pm_putF (ci := 2) (v := .int p2) (ty := .int) (C := cn_T) (T := cf_T) (N := 6) hx hb hg gu_T ct_T co_T cm_T hown hK.2.1 hw f2 rfl 1 (by decide) (hg _ gf_T_13) (fun _ h9 => h9) rfl hin rfl (by decide +kernel) rfl rfl (Nat.le_of_ble_eq_true rfl) dd_T_init_11 (fun H locs hw => ?_)
  have hw : pm_W z D cl_w (pm_up P1 h0 (.inr (2, [.int p1, .int p2, .int 0, .int 0, .int 0, .int 0]))) s.heap H _ := hw
  obtain ⟨P3, eP3⟩ : ∃ pmv : pm_T, pmv = pm_up P1 h0 (.inr (2, [.int p1, .int p2, .int 0, .int 0, .int 0, .int 0])) := ⟨_, rfl⟩
  rw [← eP3] at hw
  have f4 : P3 h0 = some (.inr (2, [.int p1, .int p2, .int 0, .int 0, .int 0, .int 0])) := by rw [eP3]; exact pm_s
  refine lv_aload_n hx hb dd_T_init_14 rfl (lv_at hl 0 rfl) ?_
  refine lv_iload_n hx hb dd_T_init_15 rfl (lv_at hl 3 rfl) ?_
  refine pm_putF (ci := 2) (v := .int p3) (ty := .int) (C := cn_T) (T := cf_T) (N := 6) hx hb hg gu_T ct_T co_T cm_T hown hK.2.1 hw f4 rfl 2 (by decide) (hg _ gf_T_16) (fun _ h9 => h9) rfl hin rfl (by decide +kernel) rfl rfl (Nat.le_of_ble_eq_true rfl) dd_T_init_16 (fun H locs hw => ?_)
  have hw : pm_W z D cl_w (pm_up P3 h0 (.inr (2, [.int p1, .int p2, .int p3, .int 0, .int 0, .int 0]))) s.heap H _ := hw
  obtain ⟨P5, eP5⟩ : ∃ pmv : pm_T, pmv = pm_up P3 h0 (.inr (2, [.int p1, .int p2, .int p3, .int 0, .int 0, .int 0])) := ⟨_, rfl⟩
  rw [← eP5] at hw
  have f6 : P5 h0 = some (.inr (2, [.int p1, .int p2, .int p3, .int 0, .int 0, .int 0])) := by rw [eP5]; exact pm_s
  refine lv_aload_n hx hb dd_T_init_19 rfl (lv_at hl 0 rfl) ?_
  refine lv_iload hx hb dd_T_init_20 (lv_at hl 4 rfl) ?_
  refine pm_putF (ci := 2) (v := .int p4) (ty := .int) (C := cn_T) (T := cf_T) (N := 6) hx hb hg gu_T ct_T co_T cm_T hown hK.2.1 hw f6 rfl 3 (by decide) (hg _ gf_T_19) (fun _ h9 => h9) rfl hin rfl (by decide +kernel) rfl rfl (Nat.le_of_ble_eq_true rfl) dd_T_init_22 (fun H locs hw => ?_)
  have hw : pm_W z D cl_w (pm_up P5 h0 (.inr (2, [.int p1, .int p2, .int p3, .int p4, .int 0, .int 0]))) s.heap H _ := hw
  obtain ⟨P7, eP7⟩ : ∃ pmv : pm_T, pmv = pm_up P5 h0 (.inr (2, [.int p1, .int p2, .int p3, .int p4, .int 0, .int 0])) := ⟨_, rfl⟩
  rw [← eP7] at hw
  have f8 : P7 h0 = some (.inr (2, [.int p1, .int p2, .int p3, .int p4, .int 0, .int 0])) := by rw [eP7]; exact pm_s
  refine lv_aload_n hx hb dd_T_init_25 rfl (lv_at hl 0 rfl) ?_
  refine lv_iload hx hb dd_T_init_26 (lv_at hl 5 rfl) ?_
  refine pm_putF (ci := 2) (v := .int p5) (ty := .int) (C := cn_T) (T := cf_T) (N := 6) hx hb hg gu_T ct_T co_T cm_T hown hK.2.1 hw f8 rfl 4 (by decide) (hg _ gf_T_22) (fun _ h9 => h9) rfl hin rfl (by decide +kernel) rfl rfl (Nat.le_of_ble_eq_true rfl) dd_T_init_28 (fun H locs hw => ?_)
  have hw : pm_W z D cl_w (pm_up P7 h0 (.inr (2, [.int p1, .int p2, .int p3, .int p4, .int p5, .int 0]))) s.heap H _ := hw
  obtain ⟨P9, eP9⟩ : ∃ pmv : pm_T, pmv = pm_up P7 h0 (.inr (2, [.int p1, .int p2, .int p3, .int p4, .int p5, .int 0])) := ⟨_, rfl⟩
  rw [← eP9] at hw
  have f10 : P9 h0 = some (.inr (2, [.int p1, .int p2, .int p3, .int p4, .int p5, .int 0])) := by rw [eP9]; exact pm_s
  refine lv_aload_n hx hb dd_T_init_31 rfl (lv_at hl 0 rfl) ?_
  refine lv_iload hx hb dd_T_init_32 (lv_at hl 6 rfl) ?_
  refine pm_putF (ci := 2) (v := .int p6) (ty := .int) (C := cn_T) (T := cf_T) (N := 6) hx hb hg gu_T ct_T co_T cm_T hown hK.2.1 hw f10 rfl 5 (by decide) (hg _ gf_T_25) (fun _ h9 => h9) rfl hin rfl (by decide +kernel) rfl rfl (Nat.le_of_ble_eq_true rfl) dd_T_init_34 (fun H locs hw => ?_)
  have hw : pm_W z D cl_w (pm_up P9 h0 (.inr (2, [.int p1, .int p2, .int p3, .int p4, .int p5, .int p6]))) s.heap H _ := hw
  obtain ⟨P11, eP11⟩ : ∃ pmv : pm_T, pmv = pm_up P9 h0 (.inr (2, [.int p1, .int p2, .int p3, .int p4, .int p5, .int p6])) := ⟨_, rfl⟩
  rw [← eP11] at hw
  have f12 : P11 h0 = some (.inr (2, [.int p1, .int p2, .int p3, .int p4, .int p5, .int p6])) := by rw [eP11]; exact pm_s
  refine cx_vret hx hb hr hlocks hw dd_T_init_37 (by decide) (by decide) ?_
  exact ⟨rfl, by simp only [eP11, eP9, eP7, eP5, eP3, eP1, pm_uu]⟩

set_option maxHeartbeats 4000000 in
set_option maxRecDepth 100000 in
theorem c_O_init (l : Launch) (z : Nat) (D : va_G) (ac : Nat → ClassId) (sa : Nat → Nat) (P : pm_T) (h0 : Nat) (p1 p2 : Int32) (f0 : P h0 = some (.inr (3, [.int 0, .int 0]))) : cx_M l yy_O_init bb_O_init 3 none ({ frames := 1, cells := 0, slots := 0, locals := 12 } : Room) z D ac sa P [.ref h0, .int p1, .int p2] (fun v P' => v = none ∧ P' = pm_up P h0 (.inr (3, [.int p1, .int p2]))) := by
  refine cx_ofM (by decide) (Nat.le_of_ble_eq_true rfl) (fun p e s m below meth c ls hx hb hr hml hg hown hlocks hin hK hw hl => ?_)
  have hl : lv_has ls 3 [(0, .ref h0), (1, .int p1), (2, .int p2)] := hl
  have hown : s.vm.findClass cn_O = some m.cls := hown
  refine lv_aload_n hx hb dd_O_init_0 rfl (lv_at hl 0 rfl) ?_
  refine W.objInit hx hb hown (hg _ gm_O_1) (hg _ gi_objectInit) (hg _ gc_objectInit) rfl (by rw [hml]; exact hl.1) rfl dd_O_init_1 (Nat.le_of_ble_eq_true rfl) (Nat.le_of_ble_eq_true rfl) ?_
  refine W.eq (g2 := F0 m 4 ls []) rfl ?_
  refine lv_aload_n hx hb dd_O_init_4 rfl (lv_at hl 0 rfl) ?_
  refine lv_iload_n hx hb dd_O_init_5 rfl (lv_at hl 1 rfl) ?_
  refine pm_putF (ci := 3) (v := .int p1) (ty := .int) (C := cn_O) (T := cf_O) (N := 2) hx hb hg gu_O ct_O co_O cm_O hown hK.2.1 hw f0 rfl 0 (by decide) (hg _ gf_O_7) (fun _ h9 => h9) rfl hin rfl (by decide +kernel) rfl rfl (Nat.le_of_ble_eq_true rfl) dd_O_init_6 (fun H locs hw => ?_)
  have hw : pm_W z D cl_w (pm_up P h0 (.inr (3, [.int p1, .int 0]))) s.heap H _ := hw
  obtain ⟨P1, eP1⟩ : ∃ pmv : pm_T, pmv = pm_up P h0 (.inr (3, [.int p1, .int 0])) := ⟨_, rfl⟩
  rw [← eP1] at hw
  have f2 : P1 h0 = some (.inr (3, [.int p1, .int 0])) := by rw [eP1]; exact pm_s
  refine lv_aload_n hx hb dd_O_init_9 rfl (lv_at hl 0 rfl) ?_
  refine lv_iload_n hx hb dd_O_init_10 rfl (lv_at hl 2 rfl) ?_
  refine pm_putF (ci := 3) (v := .int p2) (ty := .int) (C := cn_O) (T := cf_O) (N := 2) hx hb hg gu_O ct_O co_O cm_O hown hK.2.1 hw f2 rfl 1 (by decide) (hg _ gf_O_13) (fun _ h9 => h9) rfl hin rfl (by decide +kernel) rfl rfl (Nat.le_of_ble_eq_true rfl) dd_O_init_11 (fun H locs hw => ?_)
  have hw : pm_W z D cl_w (pm_up P1 h0 (.inr (3, [.int p1, .int p2]))) s.heap H _ := hw
  obtain ⟨P3, eP3⟩ : ∃ pmv : pm_T, pmv = pm_up P1 h0 (.inr (3, [.int p1, .int p2])) := ⟨_, rfl⟩
  rw [← eP3] at hw
  have f4 : P3 h0 = some (.inr (3, [.int p1, .int p2])) := by rw [eP3]; exact pm_s
  refine cx_vret hx hb hr hlocks hw dd_O_init_14 (by decide) (by decide) ?_
  exact ⟨rfl, by simp only [eP3, eP1, pm_uu]⟩

set_option maxHeartbeats 4000000 in
set_option maxRecDepth 100000 in
theorem c_H_init (l : Launch) (z : Nat) (D : va_G) (ac : Nat → ClassId) (sa : Nat → Nat) (P : pm_T) (h0 : Nat) (p1 p2 p3 p4 p5 : Int32) (f0 : P h0 = some (.inr (1, [.int 0, .int 0, .int 0, .int 0, .int 0, .null, .int 0, .int 0, .int 0, .int 0, .null]))) : cx_M l yy_H_init bb_H_init 6 none ({ frames := 1, cells := 1, slots := 3, locals := 12 } : Room) z D ac sa P [.ref h0, .int p1, .int p2, .int p3, .int p4, .int p5] (fun v P' => v = none ∧ ∃ q : Nat, P q = none ∧ P' = pm_up (pm_up P q (.inl (ac 5, 3, .inr (.inr (.inr (.inr (fun _ => none))))))) h0 (.inr (1, [.int p1, .int p2, .int p3, .int p4, .int p5, .ref q, .int 0, .int 0, .int 0, .int 0, .null]))) := by
  refine cx_ofM (by decide) (Nat.le_of_ble_eq_true rfl) (fun p e s m below meth c ls hx hb hr hml hg hown hlocks hin hK hw hl => ?_)
  have hl : lv_has ls 6 [(0, .ref h0), (1, .int p1), (2, .int p2), (3, .int p3), (4, .int p4), (5, .int p5)] := hl
  have hown : s.vm.findClass cn_H = some m.cls := hown
  refine lv_aload_n hx hb dd_H_init_0 rfl (lv_at hl 0 rfl) ?_
  refine W.objInit hx hb hown (hg _ gm_H_3) (hg _ gi_objectInit) (hg _ gc_objectInit) rfl (by rw [hml]; exact hl.1) rfl dd_H_init_1 (Nat.le_of_ble_eq_true rfl) (Nat.le_of_ble_eq_true rfl) ?_
  refine W.eq (g2 := F0 m 4 ls []) rfl ?_
  refine lv_aload_n hx hb dd_H_init_4 rfl (lv_at hl 0 rfl) ?_
  refine lv_iconst (v := 3) hx hb dd_H_init_5 (by decide) ?_
  refine pm_newq (N' := 3) hx hb hown (hg _ gk_H_9) (hK.2.2.2.2.2.2 _ (by decide +kernel)) hK.2.1 hw 5 rfl (by decide) (by decide) (by decide) (Nat.le_of_ble_eq_true rfl) (Nat.le_of_ble_eq_true rfl) dd_H_init_6 (fun q1 H hnq1 hw => ?_)
  have hw : pm_W z D cl_w (pm_up P q1 (.inl (ac 5, 3, .inr (.inr (.inr (.inr (fun _ => none))))))) s.heap H _ := hw
  obtain ⟨P2, eP2⟩ : ∃ pmv : pm_T, pmv = pm_up P q1 (.inl (ac 5, 3, .inr (.inr (.inr (.inr (fun _ => none)))))) := ⟨_, rfl⟩
  rw [← eP2] at hw
  have f3 : P2 h0 = some (.inr (1, [.int 0, .int 0, .int 0, .int 0, .int 0, .null, .int 0, .int 0, .int 0, .int 0, .null])) := by rw [eP2, pm_n (pm_nx f0 hnq1)]; exact f0
  have f4 : P2 q1 = some (.inl (ac 5, 3, .inr (.inr (.inr (.inr (fun _ => none)))))) := by rw [eP2]; exact pm_s
  refine pm_putF (ci := 1) (v := .ref q1) (ty := .array (.object "HydrantRows$Works")) (C := cn_H) (T := cf_H) (N := 11) hx hb hg gu_H ct_H co_H cm_H hown hK.2.1 hw f3 rfl 5 (by decide) (hg _ gf_H_11) (fun _ h9 => h9) rfl hin rfl (by decide +kernel) rfl rfl (Nat.le_of_ble_eq_true rfl) dd_H_init_9 (fun H locs hw => ?_)
  have hw : pm_W z D cl_w (pm_up P2 h0 (.inr (1, [.int 0, .int 0, .int 0, .int 0, .int 0, .ref q1, .int 0, .int 0, .int 0, .int 0, .null]))) s.heap H _ := hw
  obtain ⟨P5, eP5⟩ : ∃ pmv : pm_T, pmv = pm_up P2 h0 (.inr (1, [.int 0, .int 0, .int 0, .int 0, .int 0, .ref q1, .int 0, .int 0, .int 0, .int 0, .null])) := ⟨_, rfl⟩
  rw [← eP5] at hw
  have f6 : P5 q1 = some (.inl (ac 5, 3, .inr (.inr (.inr (.inr (fun _ => none)))))) := by rw [eP5, pm_n (pm_ne f4 f3 (by simp))]; exact f4
  have f7 : P5 h0 = some (.inr (1, [.int 0, .int 0, .int 0, .int 0, .int 0, .ref q1, .int 0, .int 0, .int 0, .int 0, .null])) := by rw [eP5]; exact pm_s
  refine lv_aload_n hx hb dd_H_init_12 rfl (lv_at hl 0 rfl) ?_
  refine lv_iconst (v := 0) hx hb dd_H_init_13 (by decide) ?_
  refine pm_put (ci := 1) (v := .int (0 : Int32)) (ty := .int) (C := cn_H) (T := cf_H) (N := 11) hx hb hg gu_H ct_H co_H cm_H hown hK.2.1 hw f7 rfl 6 (by decide) (hg _ gf_H_17) (fun _ h9 => h9) rfl (by decide +kernel) rfl rfl (Nat.le_of_ble_eq_true rfl) dd_H_init_14 (fun H locs hw => ?_)
  have hw : pm_W z D cl_w (pm_up P5 h0 (.inr (1, [.int 0, .int 0, .int 0, .int 0, .int 0, .ref q1, .int (0 : Int32), .int 0, .int 0, .int 0, .null]))) s.heap H _ := hw
  obtain ⟨P8, eP8⟩ : ∃ pmv : pm_T, pmv = pm_up P5 h0 (.inr (1, [.int 0, .int 0, .int 0, .int 0, .int 0, .ref q1, .int (0 : Int32), .int 0, .int 0, .int 0, .null])) := ⟨_, rfl⟩
  rw [← eP8] at hw
  have f9 : P8 q1 = some (.inl (ac 5, 3, .inr (.inr (.inr (.inr (fun _ => none)))))) := by rw [eP8, pm_n (pm_ne f6 f7 (by simp))]; exact f6
  have f10 : P8 h0 = some (.inr (1, [.int 0, .int 0, .int 0, .int 0, .int 0, .ref q1, .int (0 : Int32), .int 0, .int 0, .int 0, .null])) := by rw [eP8]; exact pm_s
  refine lv_aload_n hx hb dd_H_init_17 rfl (lv_at hl 0 rfl) ?_
  refine lv_iconst (v := 0) hx hb dd_H_init_18 (by decide) ?_
  refine pm_put (ci := 1) (v := .int (0 : Int32)) (ty := .int) (C := cn_H) (T := cf_H) (N := 11) hx hb hg gu_H ct_H co_H cm_H hown hK.2.1 hw f10 rfl 7 (by decide) (hg _ gf_H_21) (fun _ h9 => h9) rfl (by decide +kernel) rfl rfl (Nat.le_of_ble_eq_true rfl) dd_H_init_19 (fun H locs hw => ?_)
  have hw : pm_W z D cl_w (pm_up P8 h0 (.inr (1, [.int 0, .int 0, .int 0, .int 0, .int 0, .ref q1, .int (0 : Int32), .int (0 : Int32), .int 0, .int 0, .null]))) s.heap H _ := hw
  obtain ⟨P11, eP11⟩ : ∃ pmv : pm_T, pmv = pm_up P8 h0 (.inr (1, [.int 0, .int 0, .int 0, .int 0, .int 0, .ref q1, .int (0 : Int32), .int (0 : Int32), .int 0, .int 0, .null])) := ⟨_, rfl⟩
  rw [← eP11] at hw
  have f12 : P11 q1 = some (.inl (ac 5, 3, .inr (.inr (.inr (.inr (fun _ => none)))))) := by rw [eP11, pm_n (pm_ne f9 f10 (by simp))]; exact f9
  have f13 : P11 h0 = some (.inr (1, [.int 0, .int 0, .int 0, .int 0, .int 0, .ref q1, .int (0 : Int32), .int (0 : Int32), .int 0, .int 0, .null])) := by rw [eP11]; exact pm_s
  refine lv_aload_n hx hb dd_H_init_22 rfl (lv_at hl 0 rfl) ?_
  refine lv_iconst (v := 0) hx hb dd_H_init_23 (by decide) ?_
  refine pm_put (ci := 1) (v := .int (0 : Int32)) (ty := .int) (C := cn_H) (T := cf_H) (N := 11) hx hb hg gu_H ct_H co_H cm_H hown hK.2.1 hw f13 rfl 8 (by decide) (hg _ gf_H_24) (fun _ h9 => h9) rfl (by decide +kernel) rfl rfl (Nat.le_of_ble_eq_true rfl) dd_H_init_24 (fun H locs hw => ?_)
  have hw : pm_W z D cl_w (pm_up P11 h0 (.inr (1, [.int 0, .int 0, .int 0, .int 0, .int 0, .ref q1, .int (0 : Int32), .int (0 : Int32), .int (0 : Int32), .int 0, .null]))) s.heap H _ := hw
  obtain ⟨P14, eP14⟩ : ∃ pmv : pm_T, pmv = pm_up P11 h0 (.inr (1, [.int 0, .int 0, .int 0, .int 0, .int 0, .ref q1, .int (0 : Int32), .int (0 : Int32), .int (0 : Int32), .int 0, .null])) := ⟨_, rfl⟩
  rw [← eP14] at hw
  have f15 : P14 q1 = some (.inl (ac 5, 3, .inr (.inr (.inr (.inr (fun _ => none)))))) := by rw [eP14, pm_n (pm_ne f12 f13 (by simp))]; exact f12
  have f16 : P14 h0 = some (.inr (1, [.int 0, .int 0, .int 0, .int 0, .int 0, .ref q1, .int (0 : Int32), .int (0 : Int32), .int (0 : Int32), .int 0, .null])) := by rw [eP14]; exact pm_s
  refine lv_aload_n hx hb dd_H_init_27 rfl (lv_at hl 0 rfl) ?_
  refine lv_iconst (v := 0) hx hb dd_H_init_28 (by decide) ?_
  refine pm_put (ci := 1) (v := .int (0 : Int32)) (ty := .int) (C := cn_H) (T := cf_H) (N := 11) hx hb hg gu_H ct_H co_H cm_H hown hK.2.1 hw f16 rfl 9 (by decide) (hg _ gf_H_27) (fun _ h9 => h9) rfl (by decide +kernel) rfl rfl (Nat.le_of_ble_eq_true rfl) dd_H_init_29 (fun H locs hw => ?_)
  have hw : pm_W z D cl_w (pm_up P14 h0 (.inr (1, [.int 0, .int 0, .int 0, .int 0, .int 0, .ref q1, .int (0 : Int32), .int (0 : Int32), .int (0 : Int32), .int (0 : Int32), .null]))) s.heap H _ := hw
  obtain ⟨P17, eP17⟩ : ∃ pmv : pm_T, pmv = pm_up P14 h0 (.inr (1, [.int 0, .int 0, .int 0, .int 0, .int 0, .ref q1, .int (0 : Int32), .int (0 : Int32), .int (0 : Int32), .int (0 : Int32), .null])) := ⟨_, rfl⟩
  rw [← eP17] at hw
  have f18 : P17 q1 = some (.inl (ac 5, 3, .inr (.inr (.inr (.inr (fun _ => none)))))) := by rw [eP17, pm_n (pm_ne f15 f16 (by simp))]; exact f15
  have f19 : P17 h0 = some (.inr (1, [.int 0, .int 0, .int 0, .int 0, .int 0, .ref q1, .int (0 : Int32), .int (0 : Int32), .int (0 : Int32), .int (0 : Int32), .null])) := by rw [eP17]; exact pm_s
  refine lv_aload_n hx hb dd_H_init_32 rfl (lv_at hl 0 rfl) ?_
  refine lv_null hx hb dd_H_init_33 ?_
  refine pm_put (ci := 1) (v := .null) (ty := .object "HydrantRows$Test") (C := cn_H) (T := cf_H) (N := 11) hx hb hg gu_H ct_H co_H cm_H hown hK.2.1 hw f19 rfl 10 (by decide) (hg _ gf_H_30) (fun _ h9 => h9) rfl (by decide +kernel) rfl rfl (Nat.le_of_ble_eq_true rfl) dd_H_init_34 (fun H locs hw => ?_)
  have hw : pm_W z D cl_w (pm_up P17 h0 (.inr (1, [.int 0, .int 0, .int 0, .int 0, .int 0, .ref q1, .int (0 : Int32), .int (0 : Int32), .int (0 : Int32), .int (0 : Int32), .null]))) s.heap H _ := hw
  obtain ⟨P20, eP20⟩ : ∃ pmv : pm_T, pmv = pm_up P17 h0 (.inr (1, [.int 0, .int 0, .int 0, .int 0, .int 0, .ref q1, .int (0 : Int32), .int (0 : Int32), .int (0 : Int32), .int (0 : Int32), .null])) := ⟨_, rfl⟩
  rw [← eP20] at hw
  have f21 : P20 q1 = some (.inl (ac 5, 3, .inr (.inr (.inr (.inr (fun _ => none)))))) := by rw [eP20, pm_n (pm_ne f18 f19 (by simp))]; exact f18
  have f22 : P20 h0 = some (.inr (1, [.int 0, .int 0, .int 0, .int 0, .int 0, .ref q1, .int (0 : Int32), .int (0 : Int32), .int (0 : Int32), .int (0 : Int32), .null])) := by rw [eP20]; exact pm_s
  refine lv_aload_n hx hb dd_H_init_37 rfl (lv_at hl 0 rfl) ?_
  refine lv_iload_n hx hb dd_H_init_38 rfl (lv_at hl 1 rfl) ?_
  refine pm_putF (ci := 1) (v := .int p1) (ty := .int) (C := cn_H) (T := cf_H) (N := 11) hx hb hg gu_H ct_H co_H cm_H hown hK.2.1 hw f22 rfl 0 (by decide) (hg _ gf_H_34) (fun _ h9 => h9) rfl hin rfl (by decide +kernel) rfl rfl (Nat.le_of_ble_eq_true rfl) dd_H_init_39 (fun H locs hw => ?_)
  have hw : pm_W z D cl_w (pm_up P20 h0 (.inr (1, [.int p1, .int 0, .int 0, .int 0, .int 0, .ref q1, .int (0 : Int32), .int (0 : Int32), .int (0 : Int32), .int (0 : Int32), .null]))) s.heap H _ := hw
  obtain ⟨P23, eP23⟩ : ∃ pmv : pm_T, pmv = pm_up P20 h0 (.inr (1, [.int p1, .int 0, .int 0, .int 0, .int 0, .ref q1, .int (0 : Int32), .int (0 : Int32), .int (0 : Int32), .int (0 : Int32), .null])) := ⟨_, rfl⟩
  rw [← eP23] at hw
  have f24 : P23 q1 = some (.inl (ac 5, 3, .inr (.inr (.inr (.inr (fun _ => none)))))) := by rw [eP23, pm_n (pm_ne f21 f22 (by simp))]; exact f21
  have f25 : P23 h0 = some (.inr (1, [.int p1, .int 0, .int 0, .int 0, .int 0, .ref q1, .int (0 : Int32), .int (0 : Int32), .int (0 : Int32), .int (0 : Int32), .null])) := by rw [eP23]; exact pm_s
  refine lv_aload_n hx hb dd_H_init_42 rfl (lv_at hl 0 rfl) ?_
  refine lv_iload_n hx hb dd_H_init_43 rfl (lv_at hl 2 rfl) ?_
  refine pm_putF (ci := 1) (v := .int p2) (ty := .int) (C := cn_H) (T := cf_H) (N := 11) hx hb hg gu_H ct_H co_H cm_H hown hK.2.1 hw f25 rfl 1 (by decide) (hg _ gf_H_37) (fun _ h9 => h9) rfl hin rfl (by decide +kernel) rfl rfl (Nat.le_of_ble_eq_true rfl) dd_H_init_44 (fun H locs hw => ?_)
  have hw : pm_W z D cl_w (pm_up P23 h0 (.inr (1, [.int p1, .int p2, .int 0, .int 0, .int 0, .ref q1, .int (0 : Int32), .int (0 : Int32), .int (0 : Int32), .int (0 : Int32), .null]))) s.heap H _ := hw
  obtain ⟨P26, eP26⟩ : ∃ pmv : pm_T, pmv = pm_up P23 h0 (.inr (1, [.int p1, .int p2, .int 0, .int 0, .int 0, .ref q1, .int (0 : Int32), .int (0 : Int32), .int (0 : Int32), .int (0 : Int32), .null])) := ⟨_, rfl⟩
  rw [← eP26] at hw
  have f27 : P26 q1 = some (.inl (ac 5, 3, .inr (.inr (.inr (.inr (fun _ => none)))))) := by rw [eP26, pm_n (pm_ne f24 f25 (by simp))]; exact f24
  have f28 : P26 h0 = some (.inr (1, [.int p1, .int p2, .int 0, .int 0, .int 0, .ref q1, .int (0 : Int32), .int (0 : Int32), .int (0 : Int32), .int (0 : Int32), .null])) := by rw [eP26]; exact pm_s
  refine lv_aload_n hx hb dd_H_init_47 rfl (lv_at hl 0 rfl) ?_
  refine lv_iload_n hx hb dd_H_init_48 rfl (lv_at hl 3 rfl) ?_
  refine pm_putF (ci := 1) (v := .int p3) (ty := .int) (C := cn_H) (T := cf_H) (N := 11) hx hb hg gu_H ct_H co_H cm_H hown hK.2.1 hw f28 rfl 2 (by decide) (hg _ gf_H_40) (fun _ h9 => h9) rfl hin rfl (by decide +kernel) rfl rfl (Nat.le_of_ble_eq_true rfl) dd_H_init_49 (fun H locs hw => ?_)
  have hw : pm_W z D cl_w (pm_up P26 h0 (.inr (1, [.int p1, .int p2, .int p3, .int 0, .int 0, .ref q1, .int (0 : Int32), .int (0 : Int32), .int (0 : Int32), .int (0 : Int32), .null]))) s.heap H _ := hw
  obtain ⟨P29, eP29⟩ : ∃ pmv : pm_T, pmv = pm_up P26 h0 (.inr (1, [.int p1, .int p2, .int p3, .int 0, .int 0, .ref q1, .int (0 : Int32), .int (0 : Int32), .int (0 : Int32), .int (0 : Int32), .null])) := ⟨_, rfl⟩
  rw [← eP29] at hw
  have f30 : P29 q1 = some (.inl (ac 5, 3, .inr (.inr (.inr (.inr (fun _ => none)))))) := by rw [eP29, pm_n (pm_ne f27 f28 (by simp))]; exact f27
  have f31 : P29 h0 = some (.inr (1, [.int p1, .int p2, .int p3, .int 0, .int 0, .ref q1, .int (0 : Int32), .int (0 : Int32), .int (0 : Int32), .int (0 : Int32), .null])) := by rw [eP29]; exact pm_s
  refine lv_aload_n hx hb dd_H_init_52 rfl (lv_at hl 0 rfl) ?_
  refine lv_iload hx hb dd_H_init_53 (lv_at hl 4 rfl) ?_
  refine pm_putF (ci := 1) (v := .int p4) (ty := .int) (C := cn_H) (T := cf_H) (N := 11) hx hb hg gu_H ct_H co_H cm_H hown hK.2.1 hw f31 rfl 3 (by decide) (hg _ gf_H_43) (fun _ h9 => h9) rfl hin rfl (by decide +kernel) rfl rfl (Nat.le_of_ble_eq_true rfl) dd_H_init_55 (fun H locs hw => ?_)
  have hw : pm_W z D cl_w (pm_up P29 h0 (.inr (1, [.int p1, .int p2, .int p3, .int p4, .int 0, .ref q1, .int (0 : Int32), .int (0 : Int32), .int (0 : Int32), .int (0 : Int32), .null]))) s.heap H _ := hw
  obtain ⟨P32, eP32⟩ : ∃ pmv : pm_T, pmv = pm_up P29 h0 (.inr (1, [.int p1, .int p2, .int p3, .int p4, .int 0, .ref q1, .int (0 : Int32), .int (0 : Int32), .int (0 : Int32), .int (0 : Int32), .null])) := ⟨_, rfl⟩
  rw [← eP32] at hw
  have f33 : P32 q1 = some (.inl (ac 5, 3, .inr (.inr (.inr (.inr (fun _ => none)))))) := by rw [eP32, pm_n (pm_ne f30 f31 (by simp))]; exact f30
  have f34 : P32 h0 = some (.inr (1, [.int p1, .int p2, .int p3, .int p4, .int 0, .ref q1, .int (0 : Int32), .int (0 : Int32), .int (0 : Int32), .int (0 : Int32), .null])) := by rw [eP32]; exact pm_s
  refine lv_aload_n hx hb dd_H_init_58 rfl (lv_at hl 0 rfl) ?_
  refine lv_iload hx hb dd_H_init_59 (lv_at hl 5 rfl) ?_
  refine pm_putF (ci := 1) (v := .int p5) (ty := .int) (C := cn_H) (T := cf_H) (N := 11) hx hb hg gu_H ct_H co_H cm_H hown hK.2.1 hw f34 rfl 4 (by decide) (hg _ gf_H_46) (fun _ h9 => h9) rfl hin rfl (by decide +kernel) rfl rfl (Nat.le_of_ble_eq_true rfl) dd_H_init_61 (fun H locs hw => ?_)
  have hw : pm_W z D cl_w (pm_up P32 h0 (.inr (1, [.int p1, .int p2, .int p3, .int p4, .int p5, .ref q1, .int (0 : Int32), .int (0 : Int32), .int (0 : Int32), .int (0 : Int32), .null]))) s.heap H _ := hw
  obtain ⟨P35, eP35⟩ : ∃ pmv : pm_T, pmv = pm_up P32 h0 (.inr (1, [.int p1, .int p2, .int p3, .int p4, .int p5, .ref q1, .int (0 : Int32), .int (0 : Int32), .int (0 : Int32), .int (0 : Int32), .null])) := ⟨_, rfl⟩
  rw [← eP35] at hw
  have f36 : P35 q1 = some (.inl (ac 5, 3, .inr (.inr (.inr (.inr (fun _ => none)))))) := by rw [eP35, pm_n (pm_ne f33 f34 (by simp))]; exact f33
  have f37 : P35 h0 = some (.inr (1, [.int p1, .int p2, .int p3, .int p4, .int p5, .ref q1, .int (0 : Int32), .int (0 : Int32), .int (0 : Int32), .int (0 : Int32), .null])) := by rw [eP35]; exact pm_s
  refine cx_vret hx hb hr hlocks hw dd_H_init_64 (by decide) (by decide) ?_
  exact ⟨rfl, q1, hnq1, by simp only [eP35, eP32, eP29, eP26, eP23, eP20, eP17, eP14, eP11, eP8, eP5, eP2, pm_uu]⟩

set_option maxHeartbeats 4000000 in
set_option maxRecDepth 100000 in
theorem c_H_addWorks (l : Launch) (z : Nat) (D : va_G) (ac : Nat → ClassId) (sa : Nat → Nat) (P : pm_T) (h0 aw : Nat) (vn vx vy vm vk vc vd vr vt : Int32) (ct : Option Nat) (fw : Nat → Option Nat) (p1 p2 : Int32) (f0 : P h0 = some (.inr (1, [.int vn, .int vx, .int vy, .int vm, .int vk, .ref aw, .int vc, .int vd, .int vr, .int vt, va_rf ct]))) (f1 : P aw = some (.inl (ac 5, 3, .inr (.inr (.inr (.inr fw)))))) : cx_M l yy_H_addWorks bb_H_addWorks 3 (some .boolean) ({ frames := 2, cells := 1, slots := 2, locals := 34 } : Room) z D ac sa P [.ref h0, .int p1, .int p2] (fun v P' => if vc < 0 then v = some (.int 0) ∧ P' = P else if vc < 3 then v = some (.int 1) ∧ ∃ q : Nat, P q = none ∧ P' = pm_up (pm_up (pm_up P q (.inr (3, [.int p1, .int p2]))) aw (.inl (ac 5, 3, .inr (.inr (.inr (.inr (va_up fw vc.toNatClampNeg (some q)))))))) h0 (.inr (1, [.int vn, .int vx, .int vy, .int vm, .int vk, .ref aw, .int (vc + 1), .int vd, .int vr, .int vt, va_rf ct])) else v = some (.int 0) ∧ P' = P) := by
  refine cx_ofM (by decide) (Nat.le_of_ble_eq_true rfl) (fun p e s m below meth c ls hx hb hr hml hg hown hlocks hin hK hw hl => ?_)
  have hl : lv_has ls 3 [(0, .ref h0), (1, .int p1), (2, .int p2)] := hl
  have hown : s.vm.findClass cn_H = some m.cls := hown
  refine lv_aload_n hx hb dd_H_addWorks_0 rfl (lv_at hl 0 rfl) ?_
  refine pm_get (ci := 1) (C := cn_H) (T := cf_H) (N := 11) (v := .int vc) hx hb hg gu_H hown hK.2.1 hw f0 rfl 6 (by decide) (hg _ gf_H_17) (fun _ h9 => h9) rfl dd_H_addWorks_1 ?_
  refine lv_if_lt (tgt := 19) hx hb dd_H_addWorks_4 (by decide) (fun c1 => ?_) (fun c1 => ?_)
  · skip
    refine lv_iconst (v := 0) hx hb dd_H_addWorks_19 (by decide) ?_
    refine cx_iret (v := (0 : Int32)) hx hb hr (by decide) hlocks hw dd_H_addWorks_20 (by decide) (by decide) ?_
    rw [if_pos c1]
    exact ⟨rfl, rfl⟩
  · skip
    refine lv_aload_n hx hb dd_H_addWorks_7 rfl (lv_at hl 0 rfl) ?_
    refine pm_get (ci := 1) (C := cn_H) (T := cf_H) (N := 11) (v := .int vc) hx hb hg gu_H hown hK.2.1 hw f0 rfl 6 (by decide) (hg _ gf_H_17) (fun _ h9 => h9) rfl dd_H_addWorks_8 ?_
    refine lv_aload_n hx hb dd_H_addWorks_11 rfl (lv_at hl 0 rfl) ?_
    refine pm_get (ci := 1) (C := cn_H) (T := cf_H) (N := 11) (v := .ref aw) hx hb hg gu_H hown hK.2.1 hw f0 rfl 5 (by decide) (hg _ gf_H_11) (fun _ h9 => h9) rfl dd_H_addWorks_12 ?_
    refine pm_alen (v := 3) hx hb hK.2.1 hw 5 f1 rfl rfl dd_H_addWorks_15 ?_
    refine lv_icmp_lt (tgt := 21) hx hb dd_H_addWorks_16 (by decide) (fun c2 => ?_) (fun c2 => ?_)
    · skip
      refine lv_aload_n hx hb dd_H_addWorks_21 rfl (lv_at hl 0 rfl) ?_
      refine pm_get (ci := 1) (C := cn_H) (T := cf_H) (N := 11) (v := .ref aw) hx hb hg gu_H hown hK.2.1 hw f0 rfl 5 (by decide) (hg _ gf_H_11) (fun _ h9 => h9) rfl dd_H_addWorks_22 ?_
      refine lv_aload_n hx hb dd_H_addWorks_25 rfl (lv_at hl 0 rfl) ?_
      refine pm_get (ci := 1) (C := cn_H) (T := cf_H) (N := 11) (v := .int vc) hx hb hg gu_H hown hK.2.1 hw f0 rfl 6 (by decide) (hg _ gf_H_17) (fun _ h9 => h9) rfl dd_H_addWorks_26 ?_
      refine pm_new (ci := 3) (fs := [.int 0, .int 0]) (C := cn_O) (T := cf_O) (N := 2) hx hb hg gu_O ct_O co_O hown (hg _ gk_H_9) (hg _ gx_O) (hg _ gn_O) hK.2.1 hw rfl (by decide +kernel) (Nat.le_of_ble_eq_true rfl) (Nat.le_of_ble_eq_true rfl) dd_H_addWorks_29 (fun q3 H hnq3 hw => ?_)
      have hw : pm_W z D cl_w (pm_up P q3 (.inr (3, [.int 0, .int 0]))) s.heap H _ := hw
      obtain ⟨P4, eP4⟩ : ∃ pmv : pm_T, pmv = pm_up P q3 (.inr (3, [.int 0, .int 0])) := ⟨_, rfl⟩
      rw [← eP4] at hw
      have f5 : P4 h0 = some (.inr (1, [.int vn, .int vx, .int vy, .int vm, .int vk, .ref aw, .int vc, .int vd, .int vr, .int vt, va_rf ct])) := by rw [eP4, pm_n (pm_nx f0 hnq3)]; exact f0
      have f6 : P4 aw = some (.inl (ac 5, 3, .inr (.inr (.inr (.inr fw))))) := by rw [eP4, pm_n (pm_nx f1 hnq3)]; exact f1
      have f7 : P4 q3 = some (.inr (3, [.int 0, .int 0])) := by rw [eP4]; exact pm_s
      refine lv_dup hx hb dd_H_addWorks_32 rfl ?_
      refine lv_iload_n hx hb dd_H_addWorks_33 rfl (lv_at hl 1 rfl) ?_
      refine lv_iload_n hx hb dd_H_addWorks_34 rfl (lv_at hl 2 rfl) ?_
      refine cx_after (cx_rI (n := 2) (As := [.int p1, .int p2]) (rest := [.ref q3, .int vc, .ref aw]) ⟨hx, hb, hml, hown, hg⟩ (c_O_init l z D ac sa P4 q3 p1 p2 f7) gc_O_init gm_H_59 gi_O_init gn_O rfl (by decide +kernel) ⟨by decide, by decide⟩ hK hw rfl hl.1 rfl (Nat.le_of_ble_eq_true rfl) dd_H_addWorks_35 ⟨by decide, by decide⟩) hw (fun v9 P9 H locs hp hw => ?_)
      obtain ⟨rfl, e9⟩ := hp
      rw [e9] at hw
      clear e9 P9
      refine W.eq (g2 := F0 m 38 ls [.ref q3, .int vc, .ref aw]) rfl ?_
      have hw : pm_W z D cl_w (pm_up P4 q3 (.inr (3, [.int p1, .int p2]))) s.heap H _ := hw
      obtain ⟨P8, eP8⟩ : ∃ pmv : pm_T, pmv = pm_up P4 q3 (.inr (3, [.int p1, .int p2])) := ⟨_, rfl⟩
      rw [← eP8] at hw
      have f9 : P8 h0 = some (.inr (1, [.int vn, .int vx, .int vy, .int vm, .int vk, .ref aw, .int vc, .int vd, .int vr, .int vt, va_rf ct])) := by rw [eP8, pm_n (pm_ne f5 f7 (by simp))]; exact f5
      have f10 : P8 aw = some (.inl (ac 5, 3, .inr (.inr (.inr (.inr fw))))) := by rw [eP8, pm_n (pm_ne f6 f7 (by simp))]; exact f6
      have f11 : P8 q3 = some (.inr (3, [.int p1, .int p2])) := by rw [eP8]; exact pm_s
      refine pm_aast (r := (cn_O, cf_O, 2)) hx hb hK.2.1 hw 5 3 f10 rfl f11 rfl (vp_in_lt c1 c2) dd_H_addWorks_38 (fun H locs hw => ?_)
      have hw : pm_W z D cl_w (pm_up P8 aw (.inl (ac 5, 3, .inr (.inr (.inr (.inr (va_up fw vc.toNatClampNeg (some q3)))))))) s.heap H _ := hw
      obtain ⟨P12, eP12⟩ : ∃ pmv : pm_T, pmv = pm_up P8 aw (.inl (ac 5, 3, .inr (.inr (.inr (.inr (va_up fw vc.toNatClampNeg (some q3))))))) := ⟨_, rfl⟩
      rw [← eP12] at hw
      have f13 : P12 h0 = some (.inr (1, [.int vn, .int vx, .int vy, .int vm, .int vk, .ref aw, .int vc, .int vd, .int vr, .int vt, va_rf ct])) := by rw [eP12, pm_n (pm_ne f9 f10 (by simp))]; exact f9
      have f14 : P12 q3 = some (.inr (3, [.int p1, .int p2])) := by rw [eP12, pm_n (pm_ne f11 f10 (by simp))]; exact f11
      have f15 : P12 aw = some (.inl (ac 5, 3, .inr (.inr (.inr (.inr (va_up fw vc.toNatClampNeg (some q3))))))) := by rw [eP12]; exact pm_s
      refine lv_aload_n hx hb dd_H_addWorks_39 rfl (lv_at hl 0 rfl) ?_
      refine lv_dup hx hb dd_H_addWorks_40 rfl ?_
      refine pm_get (ci := 1) (C := cn_H) (T := cf_H) (N := 11) (v := .int vc) hx hb hg gu_H hown hK.2.1 hw f13 rfl 6 (by decide) (hg _ gf_H_17) (fun _ h9 => h9) rfl dd_H_addWorks_41 ?_
      refine lv_iconst (v := 1) hx hb dd_H_addWorks_44 (by decide) ?_
      refine lv_iadd hx hb dd_H_addWorks_45 ?_
      refine lv_topi (fun x16 ex16 => ?_)
      refine pm_put (ci := 1) (v := .int x16) (ty := .int) (C := cn_H) (T := cf_H) (N := 11) hx hb hg gu_H ct_H co_H cm_H hown hK.2.1 hw f13 rfl 6 (by decide) (hg _ gf_H_17) (fun _ h9 => h9) rfl (by decide +kernel) rfl rfl (Nat.le_of_ble_eq_true rfl) dd_H_addWorks_46 (fun H locs hw => ?_)
      have hw : pm_W z D cl_w (pm_up P12 h0 (.inr (1, [.int vn, .int vx, .int vy, .int vm, .int vk, .ref aw, .int x16, .int vd, .int vr, .int vt, va_rf ct]))) s.heap H _ := hw
      obtain ⟨P17, eP17⟩ : ∃ pmv : pm_T, pmv = pm_up P12 h0 (.inr (1, [.int vn, .int vx, .int vy, .int vm, .int vk, .ref aw, .int x16, .int vd, .int vr, .int vt, va_rf ct])) := ⟨_, rfl⟩
      rw [← eP17] at hw
      have f18 : P17 q3 = some (.inr (3, [.int p1, .int p2])) := by rw [eP17, pm_n (pm_ne f14 f13 (by simp))]; exact f14
      have f19 : P17 aw = some (.inl (ac 5, 3, .inr (.inr (.inr (.inr (va_up fw vc.toNatClampNeg (some q3))))))) := by rw [eP17, pm_n (pm_ne f15 f13 (by simp))]; exact f15
      have f20 : P17 h0 = some (.inr (1, [.int vn, .int vx, .int vy, .int vm, .int vk, .ref aw, .int x16, .int vd, .int vr, .int vt, va_rf ct])) := by rw [eP17]; exact pm_s
      refine lv_iconst (v := 1) hx hb dd_H_addWorks_49 (by decide) ?_
      refine cx_iret (v := (1 : Int32)) hx hb hr (by decide) hlocks hw dd_H_addWorks_50 (by decide) (by decide) ?_
      rw [if_neg c1, if_pos c2]
      exact ⟨rfl, q3, hnq3, by simp only [eP17, eP12, eP8, eP4, ex16, pm_uu]⟩
    · skip
      refine lv_iconst (v := 0) hx hb dd_H_addWorks_19 (by decide) ?_
      refine cx_iret (v := (0 : Int32)) hx hb hr (by decide) hlocks hw dd_H_addWorks_20 (by decide) (by decide) ?_
      rw [if_neg c1, if_neg c2]
      exact ⟨rfl, rfl⟩

set_option maxHeartbeats 4000000 in
set_option maxRecDepth 100000 in
theorem c_K_init (l : Launch) (z : Nat) (D : va_G) (ac : Nat → ClassId) (sa : Nat → Nat) (P : pm_T) (h0 : Nat) (f0 : P h0 = some (.inr (4, [.null, .int 0]))) : cx_M l yy_K_init bb_K_init 1 none ({ frames := 1, cells := 1, slots := 40, locals := 12 } : Room) z D ac sa P [.ref h0] (fun v P' => v = none ∧ ∃ q : Nat, P q = none ∧ P' = pm_up (pm_up P q (.inl (ac 0, 40, .inl (fun _ => 0)))) h0 (.inr (4, [.ref q, .int 0]))) := by
  refine cx_ofM (by decide) (Nat.le_of_ble_eq_true rfl) (fun p e s m below meth c ls hx hb hr hml hg hown hlocks hin hK hw hl => ?_)
  have hl : lv_has ls 1 [(0, .ref h0)] := hl
  have hown : s.vm.findClass cn_K = some m.cls := hown
  refine lv_aload_n hx hb dd_K_init_0 rfl (lv_at hl 0 rfl) ?_
  refine W.objInit hx hb hown (hg _ gm_K_3) (hg _ gi_objectInit) (hg _ gc_objectInit) rfl (by rw [hml]; exact hl.1) rfl dd_K_init_1 (Nat.le_of_ble_eq_true rfl) (Nat.le_of_ble_eq_true rfl) ?_
  refine W.eq (g2 := F0 m 4 ls []) rfl ?_
  refine lv_aload_n hx hb dd_K_init_4 rfl (lv_at hl 0 rfl) ?_
  refine lv_bipush (v := 40) hx hb dd_K_init_5 (by decide) ?_
  refine pm_newa (atype := .int) (N' := 40) (ty := .int) (a0 := (40, .inl (fun _ => 0))) hx hb (hg _ gar_int) rfl hK.2.1 hw 0 rfl (fun _ => rfl) (by decide) (by decide) (by decide) (Nat.le_of_ble_eq_true rfl) (Nat.le_of_ble_eq_true rfl) dd_K_init_7 (fun q1 H hnq1 hw => ?_)
  have hw : pm_W z D cl_w (pm_up P q1 (.inl (ac 0, 40, .inl (fun _ => 0)))) s.heap H _ := hw
  obtain ⟨P2, eP2⟩ : ∃ pmv : pm_T, pmv = pm_up P q1 (.inl (ac 0, 40, .inl (fun _ => 0))) := ⟨_, rfl⟩
  rw [← eP2] at hw
  have f3 : P2 h0 = some (.inr (4, [.null, .int 0])) := by rw [eP2, pm_n (pm_nx f0 hnq1)]; exact f0
  have f4 : P2 q1 = some (.inl (ac 0, 40, .inl (fun _ => 0))) := by rw [eP2]; exact pm_s
  refine pm_putF (ci := 4) (v := .ref q1) (ty := .array .int) (C := cn_K) (T := cf_K) (N := 2) hx hb hg gu_K ct_K co_K cm_K hown hK.2.1 hw f3 rfl 0 (by decide) (hg _ gf_K_9) (fun _ h9 => h9) rfl hin rfl (by decide +kernel) rfl rfl (Nat.le_of_ble_eq_true rfl) dd_K_init_9 (fun H locs hw => ?_)
  have hw : pm_W z D cl_w (pm_up P2 h0 (.inr (4, [.ref q1, .int 0]))) s.heap H _ := hw
  obtain ⟨P5, eP5⟩ : ∃ pmv : pm_T, pmv = pm_up P2 h0 (.inr (4, [.ref q1, .int 0])) := ⟨_, rfl⟩
  rw [← eP5] at hw
  have f6 : P5 q1 = some (.inl (ac 0, 40, .inl (fun _ => 0))) := by rw [eP5, pm_n (pm_ne f4 f3 (by simp))]; exact f4
  have f7 : P5 h0 = some (.inr (4, [.ref q1, .int 0])) := by rw [eP5]; exact pm_s
  refine lv_aload_n hx hb dd_K_init_12 rfl (lv_at hl 0 rfl) ?_
  refine lv_iconst (v := 0) hx hb dd_K_init_13 (by decide) ?_
  refine pm_put (ci := 4) (v := .int (0 : Int32)) (ty := .int) (C := cn_K) (T := cf_K) (N := 2) hx hb hg gu_K ct_K co_K cm_K hown hK.2.1 hw f7 rfl 1 (by decide) (hg _ gf_K_15) (fun _ h9 => h9) rfl (by decide +kernel) rfl rfl (Nat.le_of_ble_eq_true rfl) dd_K_init_14 (fun H locs hw => ?_)
  have hw : pm_W z D cl_w (pm_up P5 h0 (.inr (4, [.ref q1, .int (0 : Int32)]))) s.heap H _ := hw
  obtain ⟨P8, eP8⟩ : ∃ pmv : pm_T, pmv = pm_up P5 h0 (.inr (4, [.ref q1, .int (0 : Int32)])) := ⟨_, rfl⟩
  rw [← eP8] at hw
  have f9 : P8 q1 = some (.inl (ac 0, 40, .inl (fun _ => 0))) := by rw [eP8, pm_n (pm_ne f6 f7 (by simp))]; exact f6
  have f10 : P8 h0 = some (.inr (4, [.ref q1, .int (0 : Int32)])) := by rw [eP8]; exact pm_s
  refine cx_vret hx hb hr hlocks hw dd_K_init_17 (by decide) (by decide) ?_
  exact ⟨rfl, q1, hnq1, by simp only [eP8, eP5, eP2, pm_uu]⟩

set_option maxHeartbeats 4000000 in
set_option maxRecDepth 100000 in
theorem c_K_clear (l : Launch) (z : Nat) (D : va_G) (ac : Nat → ClassId) (sa : Nat → Nat) (P : pm_T) (h0 ak : Nat) (ks : Int32) (kf : Nat → Int32) (f0 : P h0 = some (.inr (4, [.ref ak, .int ks]))) : cx_M l yy_K_clear bb_K_clear 1 none ({ frames := 0, cells := 0, slots := 0, locals := 0 } : Room) z D ac sa P [.ref h0] (fun v P' => v = none ∧ P' = pm_up P h0 (.inr (4, [.ref ak, .int 0]))) := by
  refine cx_ofM (by decide) (Nat.le_of_ble_eq_true rfl) (fun p e s m below meth c ls hx hb hr hml hg hown hlocks hin hK hw hl => ?_)
  have hl : lv_has ls 1 [(0, .ref h0)] := hl
  have hown : s.vm.findClass cn_K = some m.cls := hown
  refine lv_aload_n hx hb dd_K_clear_0 rfl (lv_at hl 0 rfl) ?_
  refine lv_iconst (v := 0) hx hb dd_K_clear_1 (by decide) ?_
  refine pm_put (ci := 4) (v := .int (0 : Int32)) (ty := .int) (C := cn_K) (T := cf_K) (N := 2) hx hb hg gu_K ct_K co_K cm_K hown hK.2.1 hw f0 rfl 1 (by decide) (hg _ gf_K_15) (fun _ h9 => h9) rfl (by decide +kernel) rfl rfl (Nat.le_of_ble_eq_true rfl) dd_K_clear_2 (fun H locs hw => ?_)
  have hw : pm_W z D cl_w (pm_up P h0 (.inr (4, [.ref ak, .int (0 : Int32)]))) s.heap H _ := hw
  obtain ⟨P1, eP1⟩ : ∃ pmv : pm_T, pmv = pm_up P h0 (.inr (4, [.ref ak, .int (0 : Int32)])) := ⟨_, rfl⟩
  rw [← eP1] at hw
  have f2 : P1 h0 = some (.inr (4, [.ref ak, .int (0 : Int32)])) := by rw [eP1]; exact pm_s
  refine cx_vret hx hb hr hlocks hw dd_K_clear_5 (by decide) (by decide) ?_
  exact ⟨rfl, by simp only [eP1, pm_uu]⟩

set_option maxHeartbeats 4000000 in
set_option maxRecDepth 100000 in
theorem c_K_numberAt (l : Launch) (z : Nat) (D : va_G) (ac : Nat → ClassId) (sa : Nat → Nat) (P : pm_T) (h0 ak : Nat) (ks : Int32) (kf : Nat → Int32) (p1 : Int32) (f0 : P h0 = some (.inr (4, [.ref ak, .int ks]))) (f1 : P ak = some (.inl (ac 0, 40, .inl kf))) : cx_M l yy_K_numberAt bb_K_numberAt 2 (some .int) ({ frames := 0, cells := 0, slots := 0, locals := 0 } : Room) z D ac sa P [.ref h0, .int p1] (fun v P' => v = some (.int (if p1 < 0 then -1 else if ks ≤ p1 then -1 else if (40 : Int32) ≤ p1 then -1 else kf p1.toNatClampNeg - kf p1.toNatClampNeg / 40 * 40)) ∧ P' = P) := by
  refine cx_ofM (by decide) (Nat.le_of_ble_eq_true rfl) (fun p e s m below meth c ls hx hb hr hml hg hown hlocks hin hK hw hl => ?_)
  have hl : lv_has ls 2 [(0, .ref h0), (1, .int p1)] := hl
  have hown : s.vm.findClass cn_K = some m.cls := hown
  refine lv_iload_n hx hb dd_K_numberAt_0 rfl (lv_at hl 1 rfl) ?_
  refine lv_if_lt (tgt := 33) hx hb dd_K_numberAt_1 (by decide) (fun c1 => ?_) (fun c1 => ?_)
  · skip
    refine lv_iconst (v := (-1)) hx hb dd_K_numberAt_33 (by decide) ?_
    refine cx_iret (v := (-1 : Int32)) hx hb hr rfl hlocks hw dd_K_numberAt_34 (by decide) (by decide) ?_
    exact ⟨by simp only [if_pos c1], rfl⟩
  · skip
    refine lv_iload_n hx hb dd_K_numberAt_4 rfl (lv_at hl 1 rfl) ?_
    refine lv_aload_n hx hb dd_K_numberAt_5 rfl (lv_at hl 0 rfl) ?_
    refine pm_get (ci := 4) (C := cn_K) (T := cf_K) (N := 2) (v := .int ks) hx hb hg gu_K hown hK.2.1 hw f0 rfl 1 (by decide) (hg _ gf_K_15) (fun _ h9 => h9) rfl dd_K_numberAt_6 ?_
    refine lv_icmp_ge (tgt := 33) hx hb dd_K_numberAt_9 (by decide) (fun c2 => ?_) (fun c2 => ?_)
    · skip
      refine lv_iconst (v := (-1)) hx hb dd_K_numberAt_33 (by decide) ?_
      refine cx_iret (v := (-1 : Int32)) hx hb hr rfl hlocks hw dd_K_numberAt_34 (by decide) (by decide) ?_
      exact ⟨by simp only [if_neg c1, if_pos c2], rfl⟩
    · skip
      refine lv_iload_n hx hb dd_K_numberAt_12 rfl (lv_at hl 1 rfl) ?_
      refine lv_aload_n hx hb dd_K_numberAt_13 rfl (lv_at hl 0 rfl) ?_
      refine pm_get (ci := 4) (C := cn_K) (T := cf_K) (N := 2) (v := .ref ak) hx hb hg gu_K hown hK.2.1 hw f0 rfl 0 (by decide) (hg _ gf_K_9) (fun _ h9 => h9) rfl dd_K_numberAt_14 ?_
      refine pm_alen (v := 40) hx hb hK.2.1 hw 0 f1 rfl rfl dd_K_numberAt_17 ?_
      refine lv_icmp_ge (tgt := 33) hx hb dd_K_numberAt_18 (by decide) (fun c3 => ?_) (fun c3 => ?_)
      · skip
        refine lv_iconst (v := (-1)) hx hb dd_K_numberAt_33 (by decide) ?_
        refine cx_iret (v := (-1 : Int32)) hx hb hr rfl hlocks hw dd_K_numberAt_34 (by decide) (by decide) ?_
        exact ⟨by simp only [if_neg c1, if_neg c2, if_pos c3], rfl⟩
      · skip
        refine lv_aload_n hx hb dd_K_numberAt_21 rfl (lv_at hl 0 rfl) ?_
        refine pm_get (ci := 4) (C := cn_K) (T := cf_K) (N := 2) (v := .ref ak) hx hb hg gu_K hown hK.2.1 hw f0 rfl 0 (by decide) (hg _ gf_K_9) (fun _ h9 => h9) rfl dd_K_numberAt_22 ?_
        refine lv_iload_n hx hb dd_K_numberAt_25 rfl (lv_at hl 1 rfl) ?_
        refine pm_iald hx hb hK.2.1 hw 0 f1 rfl (vp_in_ge (n := 40) (by decide) c1 c3) dd_K_numberAt_26 ?_
        refine lv_bipush (v := 40) hx hb dd_K_numberAt_27 (by decide) ?_
        refine lv_irem hx hb dd_K_numberAt_29 (by decide) ?_
        refine lv_goto (tgt := 34) hx hb dd_K_numberAt_30 (by decide) ?_
        refine cx_iret (v := ((kf p1.toNatClampNeg) - (kf p1.toNatClampNeg) / (40 : Int32) * (40 : Int32))) hx hb hr rfl hlocks hw dd_K_numberAt_34 (by decide) (by decide) ?_
        exact ⟨by simp only [if_neg c1, if_neg c2, if_neg c3], rfl⟩

set_option maxHeartbeats 4000000 in
set_option maxRecDepth 100000 in
theorem c_A_init (l : Launch) (z : Nat) (D : va_G) (ac : Nat → ClassId) (sa : Nat → Nat) (P : pm_T) (h0 : Nat) (f0 : P h0 = some (.inr (5, [.null, .null, .null, .int 0, .int 0]))) : cx_M l yy_A_init bb_A_init 1 none ({ frames := 1, cells := 3, slots := 18, locals := 12 } : Room) z D ac sa P [.ref h0] (fun v P' => v = none ∧ ∃ q1 q2 q3 : Nat, (P q1 = none ∧ P q2 = none ∧ P q3 = none ∧ q2 ≠ q3) ∧ P' h0 = some (.inr (5, [.ref q1, .ref q2, .ref q3, .int 0, .int 0])) ∧ P' q1 = some (.inl (ac 3, 6, .inr (.inr (.inr (.inr (fun _ => none)))))) ∧ P' q2 = some (.inl (ac 0, 6, .inl (fun _ => 0))) ∧ P' q3 = some (.inl (ac 0, 6, .inl (fun _ => 0))) ∧ ∀ a : Nat, P a ≠ none → a ≠ h0 → P' a = P a) := by
  refine cx_ofM (by decide) (Nat.le_of_ble_eq_true rfl) (fun p e s m below meth c ls hx hb hr hml hg hown hlocks hin hK hw hl => ?_)
  have hl : lv_has ls 1 [(0, .ref h0)] := hl
  have hown : s.vm.findClass cn_A = some m.cls := hown
  refine lv_aload_n hx hb dd_A_init_0 rfl (lv_at hl 0 rfl) ?_
  refine W.objInit hx hb hown (hg _ gm_A_3) (hg _ gi_objectInit) (hg _ gc_objectInit) rfl (by rw [hml]; exact hl.1) rfl dd_A_init_1 (Nat.le_of_ble_eq_true rfl) (Nat.le_of_ble_eq_true rfl) ?_
  refine W.eq (g2 := F0 m 4 ls []) rfl ?_
  refine lv_aload_n hx hb dd_A_init_4 rfl (lv_at hl 0 rfl) ?_
  refine lv_bipush (v := 6) hx hb dd_A_init_5 (by decide) ?_
  refine pm_newq (N' := 6) hx hb hown (hg _ gk_A_9) (hK.2.2.2.2.2.2 _ (by decide +kernel)) hK.2.1 hw 3 rfl (by decide) (by decide) (by decide) (Nat.le_of_ble_eq_true rfl) (Nat.le_of_ble_eq_true rfl) dd_A_init_7 (fun q1 H hnq1 hw => ?_)
  have hw : pm_W z D cl_w (pm_up P q1 (.inl (ac 3, 6, .inr (.inr (.inr (.inr (fun _ => none))))))) s.heap H _ := hw
  obtain ⟨P2, eP2⟩ : ∃ pmv : pm_T, pmv = pm_up P q1 (.inl (ac 3, 6, .inr (.inr (.inr (.inr (fun _ => none)))))) := ⟨_, rfl⟩
  rw [← eP2] at hw
  have f3 : P2 h0 = some (.inr (5, [.null, .null, .null, .int 0, .int 0])) := by rw [eP2, pm_n (pm_nx f0 hnq1)]; exact f0
  have f4 : P2 q1 = some (.inl (ac 3, 6, .inr (.inr (.inr (.inr (fun _ => none)))))) := by rw [eP2]; exact pm_s
  have no_q1 : P q1 = none := hnq1
  have frP2 : ∀ a : Nat, P a ≠ none → a ≠ h0 → P2 a = P a := fun a h g0 => by rw [eP2, pm_n (fun e9 => h (by rw [e9]; exact hnq1))]
  refine pm_putF (ci := 5) (v := .ref q1) (ty := .array (.object "HydrantRows$Hydrant")) (C := cn_A) (T := cf_A) (N := 5) hx hb hg gu_A ct_A co_A cm_A hown hK.2.1 hw f3 rfl 0 (by decide) (hg _ gf_A_11) (fun _ h9 => h9) rfl hin rfl (by decide +kernel) rfl rfl (Nat.le_of_ble_eq_true rfl) dd_A_init_10 (fun H locs hw => ?_)
  have hw : pm_W z D cl_w (pm_up P2 h0 (.inr (5, [.ref q1, .null, .null, .int 0, .int 0]))) s.heap H _ := hw
  obtain ⟨P5, eP5⟩ : ∃ pmv : pm_T, pmv = pm_up P2 h0 (.inr (5, [.ref q1, .null, .null, .int 0, .int 0])) := ⟨_, rfl⟩
  rw [← eP5] at hw
  have f6 : P5 q1 = some (.inl (ac 3, 6, .inr (.inr (.inr (.inr (fun _ => none)))))) := by rw [eP5, pm_n (pm_ne f4 f3 (by simp))]; exact f4
  have f7 : P5 h0 = some (.inr (5, [.ref q1, .null, .null, .int 0, .int 0])) := by rw [eP5]; exact pm_s
  have frP5 : ∀ a : Nat, P a ≠ none → a ≠ h0 → P5 a = P a := fun a h g0 => by rw [eP5, pm_n g0]; exact (frP2 a h g0)
  refine lv_aload_n hx hb dd_A_init_13 rfl (lv_at hl 0 rfl) ?_
  refine lv_bipush (v := 6) hx hb dd_A_init_14 (by decide) ?_
  refine pm_newa (atype := .int) (N' := 6) (ty := .int) (a0 := (6, .inl (fun _ => 0))) hx hb (hg _ gar_int) rfl hK.2.1 hw 0 rfl (fun _ => rfl) (by decide) (by decide) (by decide) (Nat.le_of_ble_eq_true rfl) (Nat.le_of_ble_eq_true rfl) dd_A_init_16 (fun q8 H hnq8 hw => ?_)
  have hw : pm_W z D cl_w (pm_up P5 q8 (.inl (ac 0, 6, .inl (fun _ => 0)))) s.heap H _ := hw
  obtain ⟨P9, eP9⟩ : ∃ pmv : pm_T, pmv = pm_up P5 q8 (.inl (ac 0, 6, .inl (fun _ => 0))) := ⟨_, rfl⟩
  rw [← eP9] at hw
  have f10 : P9 q1 = some (.inl (ac 3, 6, .inr (.inr (.inr (.inr (fun _ => none)))))) := by rw [eP9, pm_n (pm_nx f6 hnq8)]; exact f6
  have f11 : P9 h0 = some (.inr (5, [.ref q1, .null, .null, .int 0, .int 0])) := by rw [eP9, pm_n (pm_nx f7 hnq8)]; exact f7
  have f12 : P9 q8 = some (.inl (ac 0, 6, .inl (fun _ => 0))) := by rw [eP9]; exact pm_s
  have no_q8 : P q8 = none := Classical.byContradiction (fun h => h ((frP5 q8 h (pm_nx f7 hnq8).symm).symm.trans hnq8))
  have ne_q1_q8 : q1 ≠ q8 := pm_nx f6 hnq8
  have frP9 : ∀ a : Nat, P a ≠ none → a ≠ h0 → P9 a = P a := fun a h g0 => by rw [eP9, pm_n (fun e9 => h ((frP5 a h g0).symm.trans (by rw [e9]; exact hnq8)))]; exact (frP5 a h g0)
  refine pm_putF (ci := 5) (v := .ref q8) (ty := .array .int) (C := cn_A) (T := cf_A) (N := 5) hx hb hg gu_A ct_A co_A cm_A hown hK.2.1 hw f11 rfl 1 (by decide) (hg _ gf_A_17) (fun _ h9 => h9) rfl hin rfl (by decide +kernel) rfl rfl (Nat.le_of_ble_eq_true rfl) dd_A_init_18 (fun H locs hw => ?_)
  have hw : pm_W z D cl_w (pm_up P9 h0 (.inr (5, [.ref q1, .ref q8, .null, .int 0, .int 0]))) s.heap H _ := hw
  obtain ⟨P13, eP13⟩ : ∃ pmv : pm_T, pmv = pm_up P9 h0 (.inr (5, [.ref q1, .ref q8, .null, .int 0, .int 0])) := ⟨_, rfl⟩
  rw [← eP13] at hw
  have f14 : P13 q1 = some (.inl (ac 3, 6, .inr (.inr (.inr (.inr (fun _ => none)))))) := by rw [eP13, pm_n (pm_ne f10 f11 (by simp))]; exact f10
  have f15 : P13 q8 = some (.inl (ac 0, 6, .inl (fun _ => 0))) := by rw [eP13, pm_n (pm_ne f12 f11 (by simp))]; exact f12
  have f16 : P13 h0 = some (.inr (5, [.ref q1, .ref q8, .null, .int 0, .int 0])) := by rw [eP13]; exact pm_s
  have frP13 : ∀ a : Nat, P a ≠ none → a ≠ h0 → P13 a = P a := fun a h g0 => by rw [eP13, pm_n g0]; exact (frP9 a h g0)
  refine lv_aload_n hx hb dd_A_init_21 rfl (lv_at hl 0 rfl) ?_
  refine lv_bipush (v := 6) hx hb dd_A_init_22 (by decide) ?_
  refine pm_newa (atype := .int) (N' := 6) (ty := .int) (a0 := (6, .inl (fun _ => 0))) hx hb (hg _ gar_int) rfl hK.2.1 hw 0 rfl (fun _ => rfl) (by decide) (by decide) (by decide) (Nat.le_of_ble_eq_true rfl) (Nat.le_of_ble_eq_true rfl) dd_A_init_24 (fun q17 H hnq17 hw => ?_)
  have hw : pm_W z D cl_w (pm_up P13 q17 (.inl (ac 0, 6, .inl (fun _ => 0)))) s.heap H _ := hw
  obtain ⟨P18, eP18⟩ : ∃ pmv : pm_T, pmv = pm_up P13 q17 (.inl (ac 0, 6, .inl (fun _ => 0))) := ⟨_, rfl⟩
  rw [← eP18] at hw
  have f19 : P18 q1 = some (.inl (ac 3, 6, .inr (.inr (.inr (.inr (fun _ => none)))))) := by rw [eP18, pm_n (pm_nx f14 hnq17)]; exact f14
  have f20 : P18 q8 = some (.inl (ac 0, 6, .inl (fun _ => 0))) := by rw [eP18, pm_n (pm_nx f15 hnq17)]; exact f15
  have f21 : P18 h0 = some (.inr (5, [.ref q1, .ref q8, .null, .int 0, .int 0])) := by rw [eP18, pm_n (pm_nx f16 hnq17)]; exact f16
  have f22 : P18 q17 = some (.inl (ac 0, 6, .inl (fun _ => 0))) := by rw [eP18]; exact pm_s
  have no_q17 : P q17 = none := Classical.byContradiction (fun h => h ((frP13 q17 h (pm_nx f16 hnq17).symm).symm.trans hnq17))
  have ne_q1_q17 : q1 ≠ q17 := pm_nx f14 hnq17
  have ne_q8_q17 : q8 ≠ q17 := pm_nx f15 hnq17
  have frP18 : ∀ a : Nat, P a ≠ none → a ≠ h0 → P18 a = P a := fun a h g0 => by rw [eP18, pm_n (fun e9 => h ((frP13 a h g0).symm.trans (by rw [e9]; exact hnq17)))]; exact (frP13 a h g0)
  refine pm_putF (ci := 5) (v := .ref q17) (ty := .array .int) (C := cn_A) (T := cf_A) (N := 5) hx hb hg gu_A ct_A co_A cm_A hown hK.2.1 hw f21 rfl 2 (by decide) (hg _ gf_A_21) (fun _ h9 => h9) rfl hin rfl (by decide +kernel) rfl rfl (Nat.le_of_ble_eq_true rfl) dd_A_init_26 (fun H locs hw => ?_)
  have hw : pm_W z D cl_w (pm_up P18 h0 (.inr (5, [.ref q1, .ref q8, .ref q17, .int 0, .int 0]))) s.heap H _ := hw
  obtain ⟨P23, eP23⟩ : ∃ pmv : pm_T, pmv = pm_up P18 h0 (.inr (5, [.ref q1, .ref q8, .ref q17, .int 0, .int 0])) := ⟨_, rfl⟩
  rw [← eP23] at hw
  have f24 : P23 q1 = some (.inl (ac 3, 6, .inr (.inr (.inr (.inr (fun _ => none)))))) := by rw [eP23, pm_n (pm_ne f19 f21 (by simp))]; exact f19
  have f25 : P23 q8 = some (.inl (ac 0, 6, .inl (fun _ => 0))) := by rw [eP23, pm_n (pm_ne f20 f21 (by simp))]; exact f20
  have f26 : P23 q17 = some (.inl (ac 0, 6, .inl (fun _ => 0))) := by rw [eP23, pm_n (pm_ne f22 f21 (by simp))]; exact f22
  have f27 : P23 h0 = some (.inr (5, [.ref q1, .ref q8, .ref q17, .int 0, .int 0])) := by rw [eP23]; exact pm_s
  have frP23 : ∀ a : Nat, P a ≠ none → a ≠ h0 → P23 a = P a := fun a h g0 => by rw [eP23, pm_n g0]; exact (frP18 a h g0)
  refine lv_aload_n hx hb dd_A_init_29 rfl (lv_at hl 0 rfl) ?_
  refine lv_iconst (v := 0) hx hb dd_A_init_30 (by decide) ?_
  refine pm_put (ci := 5) (v := .int (0 : Int32)) (ty := .int) (C := cn_A) (T := cf_A) (N := 5) hx hb hg gu_A ct_A co_A cm_A hown hK.2.1 hw f27 rfl 3 (by decide) (hg _ gf_A_24) (fun _ h9 => h9) rfl (by decide +kernel) rfl rfl (Nat.le_of_ble_eq_true rfl) dd_A_init_31 (fun H locs hw => ?_)
  have hw : pm_W z D cl_w (pm_up P23 h0 (.inr (5, [.ref q1, .ref q8, .ref q17, .int (0 : Int32), .int 0]))) s.heap H _ := hw
  obtain ⟨P28, eP28⟩ : ∃ pmv : pm_T, pmv = pm_up P23 h0 (.inr (5, [.ref q1, .ref q8, .ref q17, .int (0 : Int32), .int 0])) := ⟨_, rfl⟩
  rw [← eP28] at hw
  have f29 : P28 q1 = some (.inl (ac 3, 6, .inr (.inr (.inr (.inr (fun _ => none)))))) := by rw [eP28, pm_n (pm_ne f24 f27 (by simp))]; exact f24
  have f30 : P28 q8 = some (.inl (ac 0, 6, .inl (fun _ => 0))) := by rw [eP28, pm_n (pm_ne f25 f27 (by simp))]; exact f25
  have f31 : P28 q17 = some (.inl (ac 0, 6, .inl (fun _ => 0))) := by rw [eP28, pm_n (pm_ne f26 f27 (by simp))]; exact f26
  have f32 : P28 h0 = some (.inr (5, [.ref q1, .ref q8, .ref q17, .int (0 : Int32), .int 0])) := by rw [eP28]; exact pm_s
  have frP28 : ∀ a : Nat, P a ≠ none → a ≠ h0 → P28 a = P a := fun a h g0 => by rw [eP28, pm_n g0]; exact (frP23 a h g0)
  refine lv_aload_n hx hb dd_A_init_34 rfl (lv_at hl 0 rfl) ?_
  refine lv_iconst (v := 0) hx hb dd_A_init_35 (by decide) ?_
  refine pm_put (ci := 5) (v := .int (0 : Int32)) (ty := .int) (C := cn_A) (T := cf_A) (N := 5) hx hb hg gu_A ct_A co_A cm_A hown hK.2.1 hw f32 rfl 4 (by decide) (hg _ gf_A_28) (fun _ h9 => h9) rfl (by decide +kernel) rfl rfl (Nat.le_of_ble_eq_true rfl) dd_A_init_36 (fun H locs hw => ?_)
  have hw : pm_W z D cl_w (pm_up P28 h0 (.inr (5, [.ref q1, .ref q8, .ref q17, .int (0 : Int32), .int (0 : Int32)]))) s.heap H _ := hw
  obtain ⟨P33, eP33⟩ : ∃ pmv : pm_T, pmv = pm_up P28 h0 (.inr (5, [.ref q1, .ref q8, .ref q17, .int (0 : Int32), .int (0 : Int32)])) := ⟨_, rfl⟩
  rw [← eP33] at hw
  have f34 : P33 q1 = some (.inl (ac 3, 6, .inr (.inr (.inr (.inr (fun _ => none)))))) := by rw [eP33, pm_n (pm_ne f29 f32 (by simp))]; exact f29
  have f35 : P33 q8 = some (.inl (ac 0, 6, .inl (fun _ => 0))) := by rw [eP33, pm_n (pm_ne f30 f32 (by simp))]; exact f30
  have f36 : P33 q17 = some (.inl (ac 0, 6, .inl (fun _ => 0))) := by rw [eP33, pm_n (pm_ne f31 f32 (by simp))]; exact f31
  have f37 : P33 h0 = some (.inr (5, [.ref q1, .ref q8, .ref q17, .int (0 : Int32), .int (0 : Int32)])) := by rw [eP33]; exact pm_s
  have frP33 : ∀ a : Nat, P a ≠ none → a ≠ h0 → P33 a = P a := fun a h g0 => by rw [eP33, pm_n g0]; exact (frP28 a h g0)
  refine cx_vret hx hb hr hlocks hw dd_A_init_39 (by decide) (by decide) ?_
  exact ⟨rfl, q1, q8, q17, ⟨no_q1, no_q8, no_q17, ne_q8_q17⟩, f37, f34, f35, f36, frP33⟩
