theorem md_18 {p : Nat → Prop} (h0 : p 0) (h1 : p 1) (h2 : p 2) (h3 : p 3) (h4 : p 4) (h5 : p 5) (h6 : p 6) (h7 : p 7) (h8 : p 8) (h9 : p 9) (h10 : p 10) (h11 : p 11) (h12 : p 12) (h13 : p 13) (h14 : p 14) (h15 : p 15) (h16 : p 16) (h17 : p 17) : ∀ k, k < 18 → p k := by
  intro k hk
  rcases k with _ | _ | _ | _ | _ | _ | _ | _ | _ | _ | _ | _ | _ | _ | _ | _ | _ | _ | k
  · exact h0
  · exact h1
  · exact h2
  · exact h3
  · exact h4
  · exact h5
  · exact h6
  · exact h7
  · exact h8
  · exact h9
  · exact h10
  · exact h11
  · exact h12
  · exact h13
  · exact h14
  · exact h15
  · exact h16
  · exact h17
  · omega

theorem md_nd {L : List Nat} (hn : L.Nodup) (hL : L.length = 18) {i j : Nat} (hi : i < 18) (hj : j < 18) (e : L.getD i 0 = L.getD j 0) : i = j := by
  rw [List.getD_eq_getElem?_getD, List.getD_eq_getElem?_getD, List.getElem?_eq_getElem (by omega), List.getElem?_eq_getElem (by omega)] at e
  exact (List.getElem_inj hn).mp e

set_option maxHeartbeats 4000000 in
set_option maxRecDepth 100000 in
theorem c_M_init (l : Launch) (z : Nat) (D : va_G) (ac : Nat → ClassId) (sa : Nat → Nat) (P : pm_T) (h0 : Nat) (f0 : P h0 = some (.inr (6, [.int 0, .int 0, .null, .null, .null, .null, .null, .null, .null, .null, .null, .null, .int 0, .int 0, .null, .null, .null, .null, .null, .int 0, .null, .null, .null]))) : cx_M l yy_M_init bb_M_init 2 none ({ frames := 2, cells := 18, slots := 1498, locals := 60 } : Room) z D ac sa P [.ref h0] (fun v P' => v = none ∧ ∃ (ma : Nat → Nat) (mv : Nat → Nat → Int32), (∀ k, k < 18 → P (ma k) = none) ∧ (∀ k j, k < 18 → ¬ k = 9 → mv k j = 0) ∧ (∀ j, j < 20 → mv 9 j = 20000) ∧ md_W P' ac h0 ma mv 0 0 0 0 0 ∧ ∀ a : Nat, P a ≠ none → a ≠ h0 → P' a = P a) := by
  refine cx_ofM (by decide) (Nat.le_of_ble_eq_true rfl) (fun p e s m below meth c ls hx hb hr hml hg hown hlocks hin hK hw hl => ?_)
  have hl : lv_has ls 2 [(0, .ref h0)] := hl
  have hown : s.vm.findClass cn_M = some m.cls := hown
  refine lv_aload_n hx hb dd_M_init_0 rfl (lv_at hl 0 rfl) ?_
  refine W.objInit hx hb hown (hg _ gm_M_1) (hg _ gi_objectInit) (hg _ gc_objectInit) rfl (by rw [hml]; exact hl.1) rfl dd_M_init_1 (Nat.le_of_ble_eq_true rfl) (Nat.le_of_ble_eq_true rfl) ?_
  refine W.eq (g2 := F0 m 4 ls []) rfl ?_
  refine lv_aload_n hx hb dd_M_init_4 rfl (lv_at hl 0 rfl) ?_
  refine lv_bipush (v := 40) hx hb dd_M_init_5 (by decide) ?_
  refine pm_newa (atype := .int) (N' := 40) (ty := .int) (a0 := (40, .inl (fun _ => 0))) hx hb (hg _ gar_int) rfl hK.2.1 hw 0 rfl (fun _ => rfl) (by decide) (by decide) (by decide) (Nat.le_of_ble_eq_true rfl) (Nat.le_of_ble_eq_true rfl) dd_M_init_7 (fun q1 H hnq1 hw => ?_)
  have hw : pm_W z D cl_w (pm_up P q1 (.inl (ac 0, 40, .inl (fun _ => 0)))) s.heap H _ := hw
  obtain ⟨P2, eP2⟩ : ∃ pmv : pm_T, pmv = pm_up P q1 (.inl (ac 0, 40, .inl (fun _ => 0))) := ⟨_, rfl⟩
  rw [← eP2] at hw
  have f3 : P2 h0 = some (.inr (6, [.int 0, .int 0, .null, .null, .null, .null, .null, .null, .null, .null, .null, .null, .int 0, .int 0, .null, .null, .null, .null, .null, .int 0, .null, .null, .null])) := by rw [eP2, pm_n (pm_nx f0 hnq1)]; exact f0
  have f4 : P2 q1 = some (.inl (ac 0, 40, .inl (fun _ => 0))) := by rw [eP2]; exact pm_s
  have no_q1 : P q1 = none := hnq1
  have frP2 : ∀ a : Nat, P a ≠ none → a ≠ h0 → P2 a = P a := fun a h g0 => by rw [eP2, pm_n (fun e9 => h (by rw [e9]; exact hnq1))]
  refine pm_putF (ci := 6) (v := .ref q1) (ty := .array .int) (C := cn_M) (T := cf_M) (N := 23) hx hb hg gu_M ct_M co_M cm_M hown hK.2.1 hw f3 rfl 2 (by decide) (hg _ gf_M_7) (fun _ h9 => h9) rfl hin rfl (by decide +kernel) rfl rfl (Nat.le_of_ble_eq_true rfl) dd_M_init_9 (fun H locs hw => ?_)
  have hw : pm_W z D cl_w (pm_up P2 h0 (.inr (6, [.int 0, .int 0, .ref q1, .null, .null, .null, .null, .null, .null, .null, .null, .null, .int 0, .int 0, .null, .null, .null, .null, .null, .int 0, .null, .null, .null]))) s.heap H _ := hw
  obtain ⟨P5, eP5⟩ : ∃ pmv : pm_T, pmv = pm_up P2 h0 (.inr (6, [.int 0, .int 0, .ref q1, .null, .null, .null, .null, .null, .null, .null, .null, .null, .int 0, .int 0, .null, .null, .null, .null, .null, .int 0, .null, .null, .null])) := ⟨_, rfl⟩
  rw [← eP5] at hw
  have f6 : P5 q1 = some (.inl (ac 0, 40, .inl (fun _ => 0))) := by rw [eP5, pm_n (pm_ne f4 f3 (by simp))]; exact f4
  have f7 : P5 h0 = some (.inr (6, [.int 0, .int 0, .ref q1, .null, .null, .null, .null, .null, .null, .null, .null, .null, .int 0, .int 0, .null, .null, .null, .null, .null, .int 0, .null, .null, .null])) := by rw [eP5]; exact pm_s
  have frP5 : ∀ a : Nat, P a ≠ none → a ≠ h0 → P5 a = P a := fun a h g0 => by rw [eP5, pm_n g0]; exact (frP2 a h g0)
  refine lv_aload_n hx hb dd_M_init_12 rfl (lv_at hl 0 rfl) ?_
  refine lv_bipush (v := 40) hx hb dd_M_init_13 (by decide) ?_
  refine pm_newa (atype := .int) (N' := 40) (ty := .int) (a0 := (40, .inl (fun _ => 0))) hx hb (hg _ gar_int) rfl hK.2.1 hw 0 rfl (fun _ => rfl) (by decide) (by decide) (by decide) (Nat.le_of_ble_eq_true rfl) (Nat.le_of_ble_eq_true rfl) dd_M_init_15 (fun q8 H hnq8 hw => ?_)
  have hw : pm_W z D cl_w (pm_up P5 q8 (.inl (ac 0, 40, .inl (fun _ => 0)))) s.heap H _ := hw
  obtain ⟨P9, eP9⟩ : ∃ pmv : pm_T, pmv = pm_up P5 q8 (.inl (ac 0, 40, .inl (fun _ => 0))) := ⟨_, rfl⟩
  rw [← eP9] at hw
  have f10 : P9 q1 = some (.inl (ac 0, 40, .inl (fun _ => 0))) := by rw [eP9, pm_n (pm_nx f6 hnq8)]; exact f6
  have f11 : P9 h0 = some (.inr (6, [.int 0, .int 0, .ref q1, .null, .null, .null, .null, .null, .null, .null, .null, .null, .int 0, .int 0, .null, .null, .null, .null, .null, .int 0, .null, .null, .null])) := by rw [eP9, pm_n (pm_nx f7 hnq8)]; exact f7
  have f12 : P9 q8 = some (.inl (ac 0, 40, .inl (fun _ => 0))) := by rw [eP9]; exact pm_s
  have no_q8 : P q8 = none := Classical.byContradiction (fun h => h ((frP5 q8 h (pm_nx f7 hnq8).symm).symm.trans hnq8))
  have ne_q1_q8 : q1 ≠ q8 := pm_nx f6 hnq8
  have frP9 : ∀ a : Nat, P a ≠ none → a ≠ h0 → P9 a = P a := fun a h g0 => by rw [eP9, pm_n (fun e9 => h ((frP5 a h g0).symm.trans (by rw [e9]; exact hnq8)))]; exact (frP5 a h g0)
  refine pm_putF (ci := 6) (v := .ref q8) (ty := .array .int) (C := cn_M) (T := cf_M) (N := 23) hx hb hg gu_M ct_M co_M cm_M hown hK.2.1 hw f11 rfl 3 (by decide) (hg _ gf_M_13) (fun _ h9 => h9) rfl hin rfl (by decide +kernel) rfl rfl (Nat.le_of_ble_eq_true rfl) dd_M_init_17 (fun H locs hw => ?_)
  have hw : pm_W z D cl_w (pm_up P9 h0 (.inr (6, [.int 0, .int 0, .ref q1, .ref q8, .null, .null, .null, .null, .null, .null, .null, .null, .int 0, .int 0, .null, .null, .null, .null, .null, .int 0, .null, .null, .null]))) s.heap H _ := hw
  obtain ⟨P13, eP13⟩ : ∃ pmv : pm_T, pmv = pm_up P9 h0 (.inr (6, [.int 0, .int 0, .ref q1, .ref q8, .null, .null, .null, .null, .null, .null, .null, .null, .int 0, .int 0, .null, .null, .null, .null, .null, .int 0, .null, .null, .null])) := ⟨_, rfl⟩
  rw [← eP13] at hw
  have f14 : P13 q1 = some (.inl (ac 0, 40, .inl (fun _ => 0))) := by rw [eP13, pm_n (pm_ne f10 f11 (by simp))]; exact f10
  have f15 : P13 q8 = some (.inl (ac 0, 40, .inl (fun _ => 0))) := by rw [eP13, pm_n (pm_ne f12 f11 (by simp))]; exact f12
  have f16 : P13 h0 = some (.inr (6, [.int 0, .int 0, .ref q1, .ref q8, .null, .null, .null, .null, .null, .null, .null, .null, .int 0, .int 0, .null, .null, .null, .null, .null, .int 0, .null, .null, .null])) := by rw [eP13]; exact pm_s
  have frP13 : ∀ a : Nat, P a ≠ none → a ≠ h0 → P13 a = P a := fun a h g0 => by rw [eP13, pm_n g0]; exact (frP9 a h g0)
  refine lv_aload_n hx hb dd_M_init_20 rfl (lv_at hl 0 rfl) ?_
  refine lv_bipush (v := 40) hx hb dd_M_init_21 (by decide) ?_
  refine pm_newa (atype := .int) (N' := 40) (ty := .int) (a0 := (40, .inl (fun _ => 0))) hx hb (hg _ gar_int) rfl hK.2.1 hw 0 rfl (fun _ => rfl) (by decide) (by decide) (by decide) (Nat.le_of_ble_eq_true rfl) (Nat.le_of_ble_eq_true rfl) dd_M_init_23 (fun q17 H hnq17 hw => ?_)
  have hw : pm_W z D cl_w (pm_up P13 q17 (.inl (ac 0, 40, .inl (fun _ => 0)))) s.heap H _ := hw
  obtain ⟨P18, eP18⟩ : ∃ pmv : pm_T, pmv = pm_up P13 q17 (.inl (ac 0, 40, .inl (fun _ => 0))) := ⟨_, rfl⟩
  rw [← eP18] at hw
  have f19 : P18 q1 = some (.inl (ac 0, 40, .inl (fun _ => 0))) := by rw [eP18, pm_n (pm_nx f14 hnq17)]; exact f14
  have f20 : P18 q8 = some (.inl (ac 0, 40, .inl (fun _ => 0))) := by rw [eP18, pm_n (pm_nx f15 hnq17)]; exact f15
  have f21 : P18 h0 = some (.inr (6, [.int 0, .int 0, .ref q1, .ref q8, .null, .null, .null, .null, .null, .null, .null, .null, .int 0, .int 0, .null, .null, .null, .null, .null, .int 0, .null, .null, .null])) := by rw [eP18, pm_n (pm_nx f16 hnq17)]; exact f16
  have f22 : P18 q17 = some (.inl (ac 0, 40, .inl (fun _ => 0))) := by rw [eP18]; exact pm_s
  have no_q17 : P q17 = none := Classical.byContradiction (fun h => h ((frP13 q17 h (pm_nx f16 hnq17).symm).symm.trans hnq17))
  have ne_q1_q17 : q1 ≠ q17 := pm_nx f14 hnq17
  have ne_q8_q17 : q8 ≠ q17 := pm_nx f15 hnq17
  have frP18 : ∀ a : Nat, P a ≠ none → a ≠ h0 → P18 a = P a := fun a h g0 => by rw [eP18, pm_n (fun e9 => h ((frP13 a h g0).symm.trans (by rw [e9]; exact hnq17)))]; exact (frP13 a h g0)
  refine pm_putF (ci := 6) (v := .ref q17) (ty := .array .int) (C := cn_M) (T := cf_M) (N := 23) hx hb hg gu_M ct_M co_M cm_M hown hK.2.1 hw f21 rfl 4 (by decide) (hg _ gf_M_16) (fun _ h9 => h9) rfl hin rfl (by decide +kernel) rfl rfl (Nat.le_of_ble_eq_true rfl) dd_M_init_25 (fun H locs hw => ?_)
  have hw : pm_W z D cl_w (pm_up P18 h0 (.inr (6, [.int 0, .int 0, .ref q1, .ref q8, .ref q17, .null, .null, .null, .null, .null, .null, .null, .int 0, .int 0, .null, .null, .null, .null, .null, .int 0, .null, .null, .null]))) s.heap H _ := hw
  obtain ⟨P23, eP23⟩ : ∃ pmv : pm_T, pmv = pm_up P18 h0 (.inr (6, [.int 0, .int 0, .ref q1, .ref q8, .ref q17, .null, .null, .null, .null, .null, .null, .null, .int 0, .int 0, .null, .null, .null, .null, .null, .int 0, .null, .null, .null])) := ⟨_, rfl⟩
  rw [← eP23] at hw
  have f24 : P23 q1 = some (.inl (ac 0, 40, .inl (fun _ => 0))) := by rw [eP23, pm_n (pm_ne f19 f21 (by simp))]; exact f19
  have f25 : P23 q8 = some (.inl (ac 0, 40, .inl (fun _ => 0))) := by rw [eP23, pm_n (pm_ne f20 f21 (by simp))]; exact f20
  have f26 : P23 q17 = some (.inl (ac 0, 40, .inl (fun _ => 0))) := by rw [eP23, pm_n (pm_ne f22 f21 (by simp))]; exact f22
  have f27 : P23 h0 = some (.inr (6, [.int 0, .int 0, .ref q1, .ref q8, .ref q17, .null, .null, .null, .null, .null, .null, .null, .int 0, .int 0, .null, .null, .null, .null, .null, .int 0, .null, .null, .null])) := by rw [eP23]; exact pm_s
  have frP23 : ∀ a : Nat, P a ≠ none → a ≠ h0 → P23 a = P a := fun a h g0 => by rw [eP23, pm_n g0]; exact (frP18 a h g0)
  refine lv_aload_n hx hb dd_M_init_28 rfl (lv_at hl 0 rfl) ?_
  refine lv_bipush (v := 40) hx hb dd_M_init_29 (by decide) ?_
  refine pm_newa (atype := .int) (N' := 40) (ty := .int) (a0 := (40, .inl (fun _ => 0))) hx hb (hg _ gar_int) rfl hK.2.1 hw 0 rfl (fun _ => rfl) (by decide) (by decide) (by decide) (Nat.le_of_ble_eq_true rfl) (Nat.le_of_ble_eq_true rfl) dd_M_init_31 (fun q28 H hnq28 hw => ?_)
  have hw : pm_W z D cl_w (pm_up P23 q28 (.inl (ac 0, 40, .inl (fun _ => 0)))) s.heap H _ := hw
  obtain ⟨P29, eP29⟩ : ∃ pmv : pm_T, pmv = pm_up P23 q28 (.inl (ac 0, 40, .inl (fun _ => 0))) := ⟨_, rfl⟩
  rw [← eP29] at hw
  have f30 : P29 q1 = some (.inl (ac 0, 40, .inl (fun _ => 0))) := by rw [eP29, pm_n (pm_nx f24 hnq28)]; exact f24
  have f31 : P29 q8 = some (.inl (ac 0, 40, .inl (fun _ => 0))) := by rw [eP29, pm_n (pm_nx f25 hnq28)]; exact f25
  have f32 : P29 q17 = some (.inl (ac 0, 40, .inl (fun _ => 0))) := by rw [eP29, pm_n (pm_nx f26 hnq28)]; exact f26
  have f33 : P29 h0 = some (.inr (6, [.int 0, .int 0, .ref q1, .ref q8, .ref q17, .null, .null, .null, .null, .null, .null, .null, .int 0, .int 0, .null, .null, .null, .null, .null, .int 0, .null, .null, .null])) := by rw [eP29, pm_n (pm_nx f27 hnq28)]; exact f27
  have f34 : P29 q28 = some (.inl (ac 0, 40, .inl (fun _ => 0))) := by rw [eP29]; exact pm_s
  have no_q28 : P q28 = none := Classical.byContradiction (fun h => h ((frP23 q28 h (pm_nx f27 hnq28).symm).symm.trans hnq28))
  have ne_q1_q28 : q1 ≠ q28 := pm_nx f24 hnq28
  have ne_q8_q28 : q8 ≠ q28 := pm_nx f25 hnq28
  have ne_q17_q28 : q17 ≠ q28 := pm_nx f26 hnq28
  have frP29 : ∀ a : Nat, P a ≠ none → a ≠ h0 → P29 a = P a := fun a h g0 => by rw [eP29, pm_n (fun e9 => h ((frP23 a h g0).symm.trans (by rw [e9]; exact hnq28)))]; exact (frP23 a h g0)
  refine pm_putF (ci := 6) (v := .ref q28) (ty := .array .int) (C := cn_M) (T := cf_M) (N := 23) hx hb hg gu_M ct_M co_M cm_M hown hK.2.1 hw f33 rfl 5 (by decide) (hg _ gf_M_19) (fun _ h9 => h9) rfl hin rfl (by decide +kernel) rfl rfl (Nat.le_of_ble_eq_true rfl) dd_M_init_33 (fun H locs hw => ?_)
  have hw : pm_W z D cl_w (pm_up P29 h0 (.inr (6, [.int 0, .int 0, .ref q1, .ref q8, .ref q17, .ref q28, .null, .null, .null, .null, .null, .null, .int 0, .int 0, .null, .null, .null, .null, .null, .int 0, .null, .null, .null]))) s.heap H _ := hw
  obtain ⟨P35, eP35⟩ : ∃ pmv : pm_T, pmv = pm_up P29 h0 (.inr (6, [.int 0, .int 0, .ref q1, .ref q8, .ref q17, .ref q28, .null, .null, .null, .null, .null, .null, .int 0, .int 0, .null, .null, .null, .null, .null, .int 0, .null, .null, .null])) := ⟨_, rfl⟩
  rw [← eP35] at hw
  have f36 : P35 q1 = some (.inl (ac 0, 40, .inl (fun _ => 0))) := by rw [eP35, pm_n (pm_ne f30 f33 (by simp))]; exact f30
  have f37 : P35 q8 = some (.inl (ac 0, 40, .inl (fun _ => 0))) := by rw [eP35, pm_n (pm_ne f31 f33 (by simp))]; exact f31
  have f38 : P35 q17 = some (.inl (ac 0, 40, .inl (fun _ => 0))) := by rw [eP35, pm_n (pm_ne f32 f33 (by simp))]; exact f32
  have f39 : P35 q28 = some (.inl (ac 0, 40, .inl (fun _ => 0))) := by rw [eP35, pm_n (pm_ne f34 f33 (by simp))]; exact f34
  have f40 : P35 h0 = some (.inr (6, [.int 0, .int 0, .ref q1, .ref q8, .ref q17, .ref q28, .null, .null, .null, .null, .null, .null, .int 0, .int 0, .null, .null, .null, .null, .null, .int 0, .null, .null, .null])) := by rw [eP35]; exact pm_s
  have frP35 : ∀ a : Nat, P a ≠ none → a ≠ h0 → P35 a = P a := fun a h g0 => by rw [eP35, pm_n g0]; exact (frP29 a h g0)
  refine lv_aload_n hx hb dd_M_init_36 rfl (lv_at hl 0 rfl) ?_
  refine lv_bipush (v := 40) hx hb dd_M_init_37 (by decide) ?_
  refine pm_newa (atype := .int) (N' := 40) (ty := .int) (a0 := (40, .inl (fun _ => 0))) hx hb (hg _ gar_int) rfl hK.2.1 hw 0 rfl (fun _ => rfl) (by decide) (by decide) (by decide) (Nat.le_of_ble_eq_true rfl) (Nat.le_of_ble_eq_true rfl) dd_M_init_39 (fun q41 H hnq41 hw => ?_)
  have hw : pm_W z D cl_w (pm_up P35 q41 (.inl (ac 0, 40, .inl (fun _ => 0)))) s.heap H _ := hw
  obtain ⟨P42, eP42⟩ : ∃ pmv : pm_T, pmv = pm_up P35 q41 (.inl (ac 0, 40, .inl (fun _ => 0))) := ⟨_, rfl⟩
  rw [← eP42] at hw
  have f43 : P42 q1 = some (.inl (ac 0, 40, .inl (fun _ => 0))) := by rw [eP42, pm_n (pm_nx f36 hnq41)]; exact f36
  have f44 : P42 q8 = some (.inl (ac 0, 40, .inl (fun _ => 0))) := by rw [eP42, pm_n (pm_nx f37 hnq41)]; exact f37
  have f45 : P42 q17 = some (.inl (ac 0, 40, .inl (fun _ => 0))) := by rw [eP42, pm_n (pm_nx f38 hnq41)]; exact f38
  have f46 : P42 q28 = some (.inl (ac 0, 40, .inl (fun _ => 0))) := by rw [eP42, pm_n (pm_nx f39 hnq41)]; exact f39
  have f47 : P42 h0 = some (.inr (6, [.int 0, .int 0, .ref q1, .ref q8, .ref q17, .ref q28, .null, .null, .null, .null, .null, .null, .int 0, .int 0, .null, .null, .null, .null, .null, .int 0, .null, .null, .null])) := by rw [eP42, pm_n (pm_nx f40 hnq41)]; exact f40
  have f48 : P42 q41 = some (.inl (ac 0, 40, .inl (fun _ => 0))) := by rw [eP42]; exact pm_s
  have no_q41 : P q41 = none := Classical.byContradiction (fun h => h ((frP35 q41 h (pm_nx f40 hnq41).symm).symm.trans hnq41))
  have ne_q1_q41 : q1 ≠ q41 := pm_nx f36 hnq41
  have ne_q8_q41 : q8 ≠ q41 := pm_nx f37 hnq41
  have ne_q17_q41 : q17 ≠ q41 := pm_nx f38 hnq41
  have ne_q28_q41 : q28 ≠ q41 := pm_nx f39 hnq41
  have frP42 : ∀ a : Nat, P a ≠ none → a ≠ h0 → P42 a = P a := fun a h g0 => by rw [eP42, pm_n (fun e9 => h ((frP35 a h g0).symm.trans (by rw [e9]; exact hnq41)))]; exact (frP35 a h g0)
  refine pm_putF (ci := 6) (v := .ref q41) (ty := .array .int) (C := cn_M) (T := cf_M) (N := 23) hx hb hg gu_M ct_M co_M cm_M hown hK.2.1 hw f47 rfl 6 (by decide) (hg _ gf_M_22) (fun _ h9 => h9) rfl hin rfl (by decide +kernel) rfl rfl (Nat.le_of_ble_eq_true rfl) dd_M_init_41 (fun H locs hw => ?_)
  have hw : pm_W z D cl_w (pm_up P42 h0 (.inr (6, [.int 0, .int 0, .ref q1, .ref q8, .ref q17, .ref q28, .ref q41, .null, .null, .null, .null, .null, .int 0, .int 0, .null, .null, .null, .null, .null, .int 0, .null, .null, .null]))) s.heap H _ := hw
  obtain ⟨P49, eP49⟩ : ∃ pmv : pm_T, pmv = pm_up P42 h0 (.inr (6, [.int 0, .int 0, .ref q1, .ref q8, .ref q17, .ref q28, .ref q41, .null, .null, .null, .null, .null, .int 0, .int 0, .null, .null, .null, .null, .null, .int 0, .null, .null, .null])) := ⟨_, rfl⟩
  rw [← eP49] at hw
  have f50 : P49 q1 = some (.inl (ac 0, 40, .inl (fun _ => 0))) := by rw [eP49, pm_n (pm_ne f43 f47 (by simp))]; exact f43
  have f51 : P49 q8 = some (.inl (ac 0, 40, .inl (fun _ => 0))) := by rw [eP49, pm_n (pm_ne f44 f47 (by simp))]; exact f44
  have f52 : P49 q17 = some (.inl (ac 0, 40, .inl (fun _ => 0))) := by rw [eP49, pm_n (pm_ne f45 f47 (by simp))]; exact f45
  have f53 : P49 q28 = some (.inl (ac 0, 40, .inl (fun _ => 0))) := by rw [eP49, pm_n (pm_ne f46 f47 (by simp))]; exact f46
  have f54 : P49 q41 = some (.inl (ac 0, 40, .inl (fun _ => 0))) := by rw [eP49, pm_n (pm_ne f48 f47 (by simp))]; exact f48
  have f55 : P49 h0 = some (.inr (6, [.int 0, .int 0, .ref q1, .ref q8, .ref q17, .ref q28, .ref q41, .null, .null, .null, .null, .null, .int 0, .int 0, .null, .null, .null, .null, .null, .int 0, .null, .null, .null])) := by rw [eP49]; exact pm_s
  have frP49 : ∀ a : Nat, P a ≠ none → a ≠ h0 → P49 a = P a := fun a h g0 => by rw [eP49, pm_n g0]; exact (frP42 a h g0)
  refine lv_aload_n hx hb dd_M_init_44 rfl (lv_at hl 0 rfl) ?_
  refine lv_bipush (v := 40) hx hb dd_M_init_45 (by decide) ?_
  refine pm_newa (atype := .int) (N' := 40) (ty := .int) (a0 := (40, .inl (fun _ => 0))) hx hb (hg _ gar_int) rfl hK.2.1 hw 0 rfl (fun _ => rfl) (by decide) (by decide) (by decide) (Nat.le_of_ble_eq_true rfl) (Nat.le_of_ble_eq_true rfl) dd_M_init_47 (fun q56 H hnq56 hw => ?_)
  have hw : pm_W z D cl_w (pm_up P49 q56 (.inl (ac 0, 40, .inl (fun _ => 0)))) s.heap H _ := hw
  obtain ⟨P57, eP57⟩ : ∃ pmv : pm_T, pmv = pm_up P49 q56 (.inl (ac 0, 40, .inl (fun _ => 0))) := ⟨_, rfl⟩
  rw [← eP57] at hw
  have f58 : P57 q1 = some (.inl (ac 0, 40, .inl (fun _ => 0))) := by rw [eP57, pm_n (pm_nx f50 hnq56)]; exact f50
  have f59 : P57 q8 = some (.inl (ac 0, 40, .inl (fun _ => 0))) := by rw [eP57, pm_n (pm_nx f51 hnq56)]; exact f51
  have f60 : P57 q17 = some (.inl (ac 0, 40, .inl (fun _ => 0))) := by rw [eP57, pm_n (pm_nx f52 hnq56)]; exact f52
  have f61 : P57 q28 = some (.inl (ac 0, 40, .inl (fun _ => 0))) := by rw [eP57, pm_n (pm_nx f53 hnq56)]; exact f53
  have f62 : P57 q41 = some (.inl (ac 0, 40, .inl (fun _ => 0))) := by rw [eP57, pm_n (pm_nx f54 hnq56)]; exact f54
  have f63 : P57 h0 = some (.inr (6, [.int 0, .int 0, .ref q1, .ref q8, .ref q17, .ref q28, .ref q41, .null, .null, .null, .null, .null, .int 0, .int 0, .null, .null, .null, .null, .null, .int 0, .null, .null, .null])) := by rw [eP57, pm_n (pm_nx f55 hnq56)]; exact f55
  have f64 : P57 q56 = some (.inl (ac 0, 40, .inl (fun _ => 0))) := by rw [eP57]; exact pm_s
  have no_q56 : P q56 = none := Classical.byContradiction (fun h => h ((frP49 q56 h (pm_nx f55 hnq56).symm).symm.trans hnq56))
  have ne_q1_q56 : q1 ≠ q56 := pm_nx f50 hnq56
  have ne_q8_q56 : q8 ≠ q56 := pm_nx f51 hnq56
  have ne_q17_q56 : q17 ≠ q56 := pm_nx f52 hnq56
  have ne_q28_q56 : q28 ≠ q56 := pm_nx f53 hnq56
  have ne_q41_q56 : q41 ≠ q56 := pm_nx f54 hnq56
  have frP57 : ∀ a : Nat, P a ≠ none → a ≠ h0 → P57 a = P a := fun a h g0 => by rw [eP57, pm_n (fun e9 => h ((frP49 a h g0).symm.trans (by rw [e9]; exact hnq56)))]; exact (frP49 a h g0)
  refine pm_putF (ci := 6) (v := .ref q56) (ty := .array .int) (C := cn_M) (T := cf_M) (N := 23) hx hb hg gu_M ct_M co_M cm_M hown hK.2.1 hw f63 rfl 7 (by decide) (hg _ gf_M_25) (fun _ h9 => h9) rfl hin rfl (by decide +kernel) rfl rfl (Nat.le_of_ble_eq_true rfl) dd_M_init_49 (fun H locs hw => ?_)
  have hw : pm_W z D cl_w (pm_up P57 h0 (.inr (6, [.int 0, .int 0, .ref q1, .ref q8, .ref q17, .ref q28, .ref q41, .ref q56, .null, .null, .null, .null, .int 0, .int 0, .null, .null, .null, .null, .null, .int 0, .null, .null, .null]))) s.heap H _ := hw
  obtain ⟨P65, eP65⟩ : ∃ pmv : pm_T, pmv = pm_up P57 h0 (.inr (6, [.int 0, .int 0, .ref q1, .ref q8, .ref q17, .ref q28, .ref q41, .ref q56, .null, .null, .null, .null, .int 0, .int 0, .null, .null, .null, .null, .null, .int 0, .null, .null, .null])) := ⟨_, rfl⟩
  rw [← eP65] at hw
  have f66 : P65 q1 = some (.inl (ac 0, 40, .inl (fun _ => 0))) := by rw [eP65, pm_n (pm_ne f58 f63 (by simp))]; exact f58
  have f67 : P65 q8 = some (.inl (ac 0, 40, .inl (fun _ => 0))) := by rw [eP65, pm_n (pm_ne f59 f63 (by simp))]; exact f59
  have f68 : P65 q17 = some (.inl (ac 0, 40, .inl (fun _ => 0))) := by rw [eP65, pm_n (pm_ne f60 f63 (by simp))]; exact f60
  have f69 : P65 q28 = some (.inl (ac 0, 40, .inl (fun _ => 0))) := by rw [eP65, pm_n (pm_ne f61 f63 (by simp))]; exact f61
  have f70 : P65 q41 = some (.inl (ac 0, 40, .inl (fun _ => 0))) := by rw [eP65, pm_n (pm_ne f62 f63 (by simp))]; exact f62
  have f71 : P65 q56 = some (.inl (ac 0, 40, .inl (fun _ => 0))) := by rw [eP65, pm_n (pm_ne f64 f63 (by simp))]; exact f64
  have f72 : P65 h0 = some (.inr (6, [.int 0, .int 0, .ref q1, .ref q8, .ref q17, .ref q28, .ref q41, .ref q56, .null, .null, .null, .null, .int 0, .int 0, .null, .null, .null, .null, .null, .int 0, .null, .null, .null])) := by rw [eP65]; exact pm_s
  have frP65 : ∀ a : Nat, P a ≠ none → a ≠ h0 → P65 a = P a := fun a h g0 => by rw [eP65, pm_n g0]; exact (frP57 a h g0)
  refine lv_aload_n hx hb dd_M_init_52 rfl (lv_at hl 0 rfl) ?_
  refine lv_bipush (v := 120) hx hb dd_M_init_53 (by decide) ?_
  refine pm_newa (atype := .int) (N' := 120) (ty := .int) (a0 := (120, .inl (fun _ => 0))) hx hb (hg _ gar_int) rfl hK.2.1 hw 0 rfl (fun _ => rfl) (by decide) (by decide) (by decide) (Nat.le_of_ble_eq_true rfl) (Nat.le_of_ble_eq_true rfl) dd_M_init_55 (fun q73 H hnq73 hw => ?_)
  have hw : pm_W z D cl_w (pm_up P65 q73 (.inl (ac 0, 120, .inl (fun _ => 0)))) s.heap H _ := hw
  obtain ⟨P74, eP74⟩ : ∃ pmv : pm_T, pmv = pm_up P65 q73 (.inl (ac 0, 120, .inl (fun _ => 0))) := ⟨_, rfl⟩
  rw [← eP74] at hw
  have f75 : P74 q1 = some (.inl (ac 0, 40, .inl (fun _ => 0))) := by rw [eP74, pm_n (pm_nx f66 hnq73)]; exact f66
  have f76 : P74 q8 = some (.inl (ac 0, 40, .inl (fun _ => 0))) := by rw [eP74, pm_n (pm_nx f67 hnq73)]; exact f67
  have f77 : P74 q17 = some (.inl (ac 0, 40, .inl (fun _ => 0))) := by rw [eP74, pm_n (pm_nx f68 hnq73)]; exact f68
  have f78 : P74 q28 = some (.inl (ac 0, 40, .inl (fun _ => 0))) := by rw [eP74, pm_n (pm_nx f69 hnq73)]; exact f69
  have f79 : P74 q41 = some (.inl (ac 0, 40, .inl (fun _ => 0))) := by rw [eP74, pm_n (pm_nx f70 hnq73)]; exact f70
  have f80 : P74 q56 = some (.inl (ac 0, 40, .inl (fun _ => 0))) := by rw [eP74, pm_n (pm_nx f71 hnq73)]; exact f71
  have f81 : P74 h0 = some (.inr (6, [.int 0, .int 0, .ref q1, .ref q8, .ref q17, .ref q28, .ref q41, .ref q56, .null, .null, .null, .null, .int 0, .int 0, .null, .null, .null, .null, .null, .int 0, .null, .null, .null])) := by rw [eP74, pm_n (pm_nx f72 hnq73)]; exact f72
  have f82 : P74 q73 = some (.inl (ac 0, 120, .inl (fun _ => 0))) := by rw [eP74]; exact pm_s
  have no_q73 : P q73 = none := Classical.byContradiction (fun h => h ((frP65 q73 h (pm_nx f72 hnq73).symm).symm.trans hnq73))
  have ne_q1_q73 : q1 ≠ q73 := pm_nx f66 hnq73
  have ne_q8_q73 : q8 ≠ q73 := pm_nx f67 hnq73
  have ne_q17_q73 : q17 ≠ q73 := pm_nx f68 hnq73
  have ne_q28_q73 : q28 ≠ q73 := pm_nx f69 hnq73
  have ne_q41_q73 : q41 ≠ q73 := pm_nx f70 hnq73
  have ne_q56_q73 : q56 ≠ q73 := pm_nx f71 hnq73
  have frP74 : ∀ a : Nat, P a ≠ none → a ≠ h0 → P74 a = P a := fun a h g0 => by rw [eP74, pm_n (fun e9 => h ((frP65 a h g0).symm.trans (by rw [e9]; exact hnq73)))]; exact (frP65 a h g0)
  refine pm_putF (ci := 6) (v := .ref q73) (ty := .array .int) (C := cn_M) (T := cf_M) (N := 23) hx hb hg gu_M ct_M co_M cm_M hown hK.2.1 hw f81 rfl 8 (by decide) (hg _ gf_M_28) (fun _ h9 => h9) rfl hin rfl (by decide +kernel) rfl rfl (Nat.le_of_ble_eq_true rfl) dd_M_init_57 (fun H locs hw => ?_)
  have hw : pm_W z D cl_w (pm_up P74 h0 (.inr (6, [.int 0, .int 0, .ref q1, .ref q8, .ref q17, .ref q28, .ref q41, .ref q56, .ref q73, .null, .null, .null, .int 0, .int 0, .null, .null, .null, .null, .null, .int 0, .null, .null, .null]))) s.heap H _ := hw
  obtain ⟨P83, eP83⟩ : ∃ pmv : pm_T, pmv = pm_up P74 h0 (.inr (6, [.int 0, .int 0, .ref q1, .ref q8, .ref q17, .ref q28, .ref q41, .ref q56, .ref q73, .null, .null, .null, .int 0, .int 0, .null, .null, .null, .null, .null, .int 0, .null, .null, .null])) := ⟨_, rfl⟩
  rw [← eP83] at hw
  have f84 : P83 q1 = some (.inl (ac 0, 40, .inl (fun _ => 0))) := by rw [eP83, pm_n (pm_ne f75 f81 (by simp))]; exact f75
  have f85 : P83 q8 = some (.inl (ac 0, 40, .inl (fun _ => 0))) := by rw [eP83, pm_n (pm_ne f76 f81 (by simp))]; exact f76
  have f86 : P83 q17 = some (.inl (ac 0, 40, .inl (fun _ => 0))) := by rw [eP83, pm_n (pm_ne f77 f81 (by simp))]; exact f77
  have f87 : P83 q28 = some (.inl (ac 0, 40, .inl (fun _ => 0))) := by rw [eP83, pm_n (pm_ne f78 f81 (by simp))]; exact f78
  have f88 : P83 q41 = some (.inl (ac 0, 40, .inl (fun _ => 0))) := by rw [eP83, pm_n (pm_ne f79 f81 (by simp))]; exact f79
  have f89 : P83 q56 = some (.inl (ac 0, 40, .inl (fun _ => 0))) := by rw [eP83, pm_n (pm_ne f80 f81 (by simp))]; exact f80
  have f90 : P83 q73 = some (.inl (ac 0, 120, .inl (fun _ => 0))) := by rw [eP83, pm_n (pm_ne f82 f81 (by simp))]; exact f82
  have f91 : P83 h0 = some (.inr (6, [.int 0, .int 0, .ref q1, .ref q8, .ref q17, .ref q28, .ref q41, .ref q56, .ref q73, .null, .null, .null, .int 0, .int 0, .null, .null, .null, .null, .null, .int 0, .null, .null, .null])) := by rw [eP83]; exact pm_s
  have frP83 : ∀ a : Nat, P a ≠ none → a ≠ h0 → P83 a = P a := fun a h g0 => by rw [eP83, pm_n g0]; exact (frP74 a h g0)
  refine lv_aload_n hx hb dd_M_init_60 rfl (lv_at hl 0 rfl) ?_
  refine lv_bipush (v := 120) hx hb dd_M_init_61 (by decide) ?_
  refine pm_newa (atype := .int) (N' := 120) (ty := .int) (a0 := (120, .inl (fun _ => 0))) hx hb (hg _ gar_int) rfl hK.2.1 hw 0 rfl (fun _ => rfl) (by decide) (by decide) (by decide) (Nat.le_of_ble_eq_true rfl) (Nat.le_of_ble_eq_true rfl) dd_M_init_63 (fun q92 H hnq92 hw => ?_)
  have hw : pm_W z D cl_w (pm_up P83 q92 (.inl (ac 0, 120, .inl (fun _ => 0)))) s.heap H _ := hw
  obtain ⟨P93, eP93⟩ : ∃ pmv : pm_T, pmv = pm_up P83 q92 (.inl (ac 0, 120, .inl (fun _ => 0))) := ⟨_, rfl⟩
  rw [← eP93] at hw
  have f94 : P93 q1 = some (.inl (ac 0, 40, .inl (fun _ => 0))) := by rw [eP93, pm_n (pm_nx f84 hnq92)]; exact f84
  have f95 : P93 q8 = some (.inl (ac 0, 40, .inl (fun _ => 0))) := by rw [eP93, pm_n (pm_nx f85 hnq92)]; exact f85
  have f96 : P93 q17 = some (.inl (ac 0, 40, .inl (fun _ => 0))) := by rw [eP93, pm_n (pm_nx f86 hnq92)]; exact f86
  have f97 : P93 q28 = some (.inl (ac 0, 40, .inl (fun _ => 0))) := by rw [eP93, pm_n (pm_nx f87 hnq92)]; exact f87
  have f98 : P93 q41 = some (.inl (ac 0, 40, .inl (fun _ => 0))) := by rw [eP93, pm_n (pm_nx f88 hnq92)]; exact f88
  have f99 : P93 q56 = some (.inl (ac 0, 40, .inl (fun _ => 0))) := by rw [eP93, pm_n (pm_nx f89 hnq92)]; exact f89
  have f100 : P93 q73 = some (.inl (ac 0, 120, .inl (fun _ => 0))) := by rw [eP93, pm_n (pm_nx f90 hnq92)]; exact f90
  have f101 : P93 h0 = some (.inr (6, [.int 0, .int 0, .ref q1, .ref q8, .ref q17, .ref q28, .ref q41, .ref q56, .ref q73, .null, .null, .null, .int 0, .int 0, .null, .null, .null, .null, .null, .int 0, .null, .null, .null])) := by rw [eP93, pm_n (pm_nx f91 hnq92)]; exact f91
  have f102 : P93 q92 = some (.inl (ac 0, 120, .inl (fun _ => 0))) := by rw [eP93]; exact pm_s
  have no_q92 : P q92 = none := Classical.byContradiction (fun h => h ((frP83 q92 h (pm_nx f91 hnq92).symm).symm.trans hnq92))
  have ne_q1_q92 : q1 ≠ q92 := pm_nx f84 hnq92
  have ne_q8_q92 : q8 ≠ q92 := pm_nx f85 hnq92
  have ne_q17_q92 : q17 ≠ q92 := pm_nx f86 hnq92
  have ne_q28_q92 : q28 ≠ q92 := pm_nx f87 hnq92
  have ne_q41_q92 : q41 ≠ q92 := pm_nx f88 hnq92
  have ne_q56_q92 : q56 ≠ q92 := pm_nx f89 hnq92
  have ne_q73_q92 : q73 ≠ q92 := pm_nx f90 hnq92
  have frP93 : ∀ a : Nat, P a ≠ none → a ≠ h0 → P93 a = P a := fun a h g0 => by rw [eP93, pm_n (fun e9 => h ((frP83 a h g0).symm.trans (by rw [e9]; exact hnq92)))]; exact (frP83 a h g0)
  refine pm_putF (ci := 6) (v := .ref q92) (ty := .array .int) (C := cn_M) (T := cf_M) (N := 23) hx hb hg gu_M ct_M co_M cm_M hown hK.2.1 hw f101 rfl 9 (by decide) (hg _ gf_M_31) (fun _ h9 => h9) rfl hin rfl (by decide +kernel) rfl rfl (Nat.le_of_ble_eq_true rfl) dd_M_init_65 (fun H locs hw => ?_)
  have hw : pm_W z D cl_w (pm_up P93 h0 (.inr (6, [.int 0, .int 0, .ref q1, .ref q8, .ref q17, .ref q28, .ref q41, .ref q56, .ref q73, .ref q92, .null, .null, .int 0, .int 0, .null, .null, .null, .null, .null, .int 0, .null, .null, .null]))) s.heap H _ := hw
  obtain ⟨P103, eP103⟩ : ∃ pmv : pm_T, pmv = pm_up P93 h0 (.inr (6, [.int 0, .int 0, .ref q1, .ref q8, .ref q17, .ref q28, .ref q41, .ref q56, .ref q73, .ref q92, .null, .null, .int 0, .int 0, .null, .null, .null, .null, .null, .int 0, .null, .null, .null])) := ⟨_, rfl⟩
  rw [← eP103] at hw
  have f104 : P103 q1 = some (.inl (ac 0, 40, .inl (fun _ => 0))) := by rw [eP103, pm_n (pm_ne f94 f101 (by simp))]; exact f94
  have f105 : P103 q8 = some (.inl (ac 0, 40, .inl (fun _ => 0))) := by rw [eP103, pm_n (pm_ne f95 f101 (by simp))]; exact f95
  have f106 : P103 q17 = some (.inl (ac 0, 40, .inl (fun _ => 0))) := by rw [eP103, pm_n (pm_ne f96 f101 (by simp))]; exact f96
  have f107 : P103 q28 = some (.inl (ac 0, 40, .inl (fun _ => 0))) := by rw [eP103, pm_n (pm_ne f97 f101 (by simp))]; exact f97
  have f108 : P103 q41 = some (.inl (ac 0, 40, .inl (fun _ => 0))) := by rw [eP103, pm_n (pm_ne f98 f101 (by simp))]; exact f98
  have f109 : P103 q56 = some (.inl (ac 0, 40, .inl (fun _ => 0))) := by rw [eP103, pm_n (pm_ne f99 f101 (by simp))]; exact f99
  have f110 : P103 q73 = some (.inl (ac 0, 120, .inl (fun _ => 0))) := by rw [eP103, pm_n (pm_ne f100 f101 (by simp))]; exact f100
  have f111 : P103 q92 = some (.inl (ac 0, 120, .inl (fun _ => 0))) := by rw [eP103, pm_n (pm_ne f102 f101 (by simp))]; exact f102
  have f112 : P103 h0 = some (.inr (6, [.int 0, .int 0, .ref q1, .ref q8, .ref q17, .ref q28, .ref q41, .ref q56, .ref q73, .ref q92, .null, .null, .int 0, .int 0, .null, .null, .null, .null, .null, .int 0, .null, .null, .null])) := by rw [eP103]; exact pm_s
  have frP103 : ∀ a : Nat, P a ≠ none → a ≠ h0 → P103 a = P a := fun a h g0 => by rw [eP103, pm_n g0]; exact (frP93 a h g0)
  refine lv_aload_n hx hb dd_M_init_68 rfl (lv_at hl 0 rfl) ?_
  refine lv_sipush (v := 480) hx hb dd_M_init_69 (by decide) ?_
  refine pm_newa (atype := .boolean) (N' := 480) (ty := .boolean) (a0 := (480, .inl (fun _ => 0))) hx hb (hg _ gar_boolean) rfl hK.2.1 hw 2 rfl (fun _ => rfl) (by decide) (by decide) (by decide) (Nat.le_of_ble_eq_true rfl) (Nat.le_of_ble_eq_true rfl) dd_M_init_72 (fun q113 H hnq113 hw => ?_)
  have hw : pm_W z D cl_w (pm_up P103 q113 (.inl (ac 2, 480, .inl (fun _ => 0)))) s.heap H _ := hw
  obtain ⟨P114, eP114⟩ : ∃ pmv : pm_T, pmv = pm_up P103 q113 (.inl (ac 2, 480, .inl (fun _ => 0))) := ⟨_, rfl⟩
  rw [← eP114] at hw
  have f115 : P114 q1 = some (.inl (ac 0, 40, .inl (fun _ => 0))) := by rw [eP114, pm_n (pm_nx f104 hnq113)]; exact f104
  have f116 : P114 q8 = some (.inl (ac 0, 40, .inl (fun _ => 0))) := by rw [eP114, pm_n (pm_nx f105 hnq113)]; exact f105
  have f117 : P114 q17 = some (.inl (ac 0, 40, .inl (fun _ => 0))) := by rw [eP114, pm_n (pm_nx f106 hnq113)]; exact f106
  have f118 : P114 q28 = some (.inl (ac 0, 40, .inl (fun _ => 0))) := by rw [eP114, pm_n (pm_nx f107 hnq113)]; exact f107
  have f119 : P114 q41 = some (.inl (ac 0, 40, .inl (fun _ => 0))) := by rw [eP114, pm_n (pm_nx f108 hnq113)]; exact f108
  have f120 : P114 q56 = some (.inl (ac 0, 40, .inl (fun _ => 0))) := by rw [eP114, pm_n (pm_nx f109 hnq113)]; exact f109
  have f121 : P114 q73 = some (.inl (ac 0, 120, .inl (fun _ => 0))) := by rw [eP114, pm_n (pm_nx f110 hnq113)]; exact f110
  have f122 : P114 q92 = some (.inl (ac 0, 120, .inl (fun _ => 0))) := by rw [eP114, pm_n (pm_nx f111 hnq113)]; exact f111
  have f123 : P114 h0 = some (.inr (6, [.int 0, .int 0, .ref q1, .ref q8, .ref q17, .ref q28, .ref q41, .ref q56, .ref q73, .ref q92, .null, .null, .int 0, .int 0, .null, .null, .null, .null, .null, .int 0, .null, .null, .null])) := by rw [eP114, pm_n (pm_nx f112 hnq113)]; exact f112
  have f124 : P114 q113 = some (.inl (ac 2, 480, .inl (fun _ => 0))) := by rw [eP114]; exact pm_s
  have no_q113 : P q113 = none := Classical.byContradiction (fun h => h ((frP103 q113 h (pm_nx f112 hnq113).symm).symm.trans hnq113))
  have ne_q1_q113 : q1 ≠ q113 := pm_nx f104 hnq113
  have ne_q8_q113 : q8 ≠ q113 := pm_nx f105 hnq113
  have ne_q17_q113 : q17 ≠ q113 := pm_nx f106 hnq113
  have ne_q28_q113 : q28 ≠ q113 := pm_nx f107 hnq113
  have ne_q41_q113 : q41 ≠ q113 := pm_nx f108 hnq113
  have ne_q56_q113 : q56 ≠ q113 := pm_nx f109 hnq113
  have ne_q73_q113 : q73 ≠ q113 := pm_nx f110 hnq113
  have ne_q92_q113 : q92 ≠ q113 := pm_nx f111 hnq113
  have frP114 : ∀ a : Nat, P a ≠ none → a ≠ h0 → P114 a = P a := fun a h g0 => by rw [eP114, pm_n (fun e9 => h ((frP103 a h g0).symm.trans (by rw [e9]; exact hnq113)))]; exact (frP103 a h g0)
  refine pm_putF (ci := 6) (v := .ref q113) (ty := .array .boolean) (C := cn_M) (T := cf_M) (N := 23) hx hb hg gu_M ct_M co_M cm_M hown hK.2.1 hw f123 rfl 10 (by decide) (hg _ gf_M_34) (fun _ h9 => h9) rfl hin rfl (by decide +kernel) rfl rfl (Nat.le_of_ble_eq_true rfl) dd_M_init_74 (fun H locs hw => ?_)
  have hw : pm_W z D cl_w (pm_up P114 h0 (.inr (6, [.int 0, .int 0, .ref q1, .ref q8, .ref q17, .ref q28, .ref q41, .ref q56, .ref q73, .ref q92, .ref q113, .null, .int 0, .int 0, .null, .null, .null, .null, .null, .int 0, .null, .null, .null]))) s.heap H _ := hw
  obtain ⟨P125, eP125⟩ : ∃ pmv : pm_T, pmv = pm_up P114 h0 (.inr (6, [.int 0, .int 0, .ref q1, .ref q8, .ref q17, .ref q28, .ref q41, .ref q56, .ref q73, .ref q92, .ref q113, .null, .int 0, .int 0, .null, .null, .null, .null, .null, .int 0, .null, .null, .null])) := ⟨_, rfl⟩
  rw [← eP125] at hw
  have f126 : P125 q1 = some (.inl (ac 0, 40, .inl (fun _ => 0))) := by rw [eP125, pm_n (pm_ne f115 f123 (by simp))]; exact f115
  have f127 : P125 q8 = some (.inl (ac 0, 40, .inl (fun _ => 0))) := by rw [eP125, pm_n (pm_ne f116 f123 (by simp))]; exact f116
  have f128 : P125 q17 = some (.inl (ac 0, 40, .inl (fun _ => 0))) := by rw [eP125, pm_n (pm_ne f117 f123 (by simp))]; exact f117
  have f129 : P125 q28 = some (.inl (ac 0, 40, .inl (fun _ => 0))) := by rw [eP125, pm_n (pm_ne f118 f123 (by simp))]; exact f118
  have f130 : P125 q41 = some (.inl (ac 0, 40, .inl (fun _ => 0))) := by rw [eP125, pm_n (pm_ne f119 f123 (by simp))]; exact f119
  have f131 : P125 q56 = some (.inl (ac 0, 40, .inl (fun _ => 0))) := by rw [eP125, pm_n (pm_ne f120 f123 (by simp))]; exact f120
  have f132 : P125 q73 = some (.inl (ac 0, 120, .inl (fun _ => 0))) := by rw [eP125, pm_n (pm_ne f121 f123 (by simp))]; exact f121
  have f133 : P125 q92 = some (.inl (ac 0, 120, .inl (fun _ => 0))) := by rw [eP125, pm_n (pm_ne f122 f123 (by simp))]; exact f122
  have f134 : P125 q113 = some (.inl (ac 2, 480, .inl (fun _ => 0))) := by rw [eP125, pm_n (pm_ne f124 f123 (by simp))]; exact f124
  have f135 : P125 h0 = some (.inr (6, [.int 0, .int 0, .ref q1, .ref q8, .ref q17, .ref q28, .ref q41, .ref q56, .ref q73, .ref q92, .ref q113, .null, .int 0, .int 0, .null, .null, .null, .null, .null, .int 0, .null, .null, .null])) := by rw [eP125]; exact pm_s
  have frP125 : ∀ a : Nat, P a ≠ none → a ≠ h0 → P125 a = P a := fun a h g0 => by rw [eP125, pm_n g0]; exact (frP114 a h g0)
  refine lv_aload_n hx hb dd_M_init_77 rfl (lv_at hl 0 rfl) ?_
  refine lv_bipush (v := 20) hx hb dd_M_init_78 (by decide) ?_
  refine pm_newa (atype := .int) (N' := 20) (ty := .int) (a0 := (20, .inl (fun _ => 0))) hx hb (hg _ gar_int) rfl hK.2.1 hw 0 rfl (fun _ => rfl) (by decide) (by decide) (by decide) (Nat.le_of_ble_eq_true rfl) (Nat.le_of_ble_eq_true rfl) dd_M_init_80 (fun q136 H hnq136 hw => ?_)
  have hw : pm_W z D cl_w (pm_up P125 q136 (.inl (ac 0, 20, .inl (fun _ => 0)))) s.heap H _ := hw
  obtain ⟨P137, eP137⟩ : ∃ pmv : pm_T, pmv = pm_up P125 q136 (.inl (ac 0, 20, .inl (fun _ => 0))) := ⟨_, rfl⟩
  rw [← eP137] at hw
  have f138 : P137 q1 = some (.inl (ac 0, 40, .inl (fun _ => 0))) := by rw [eP137, pm_n (pm_nx f126 hnq136)]; exact f126
  have f139 : P137 q8 = some (.inl (ac 0, 40, .inl (fun _ => 0))) := by rw [eP137, pm_n (pm_nx f127 hnq136)]; exact f127
  have f140 : P137 q17 = some (.inl (ac 0, 40, .inl (fun _ => 0))) := by rw [eP137, pm_n (pm_nx f128 hnq136)]; exact f128
  have f141 : P137 q28 = some (.inl (ac 0, 40, .inl (fun _ => 0))) := by rw [eP137, pm_n (pm_nx f129 hnq136)]; exact f129
  have f142 : P137 q41 = some (.inl (ac 0, 40, .inl (fun _ => 0))) := by rw [eP137, pm_n (pm_nx f130 hnq136)]; exact f130
  have f143 : P137 q56 = some (.inl (ac 0, 40, .inl (fun _ => 0))) := by rw [eP137, pm_n (pm_nx f131 hnq136)]; exact f131
  have f144 : P137 q73 = some (.inl (ac 0, 120, .inl (fun _ => 0))) := by rw [eP137, pm_n (pm_nx f132 hnq136)]; exact f132
  have f145 : P137 q92 = some (.inl (ac 0, 120, .inl (fun _ => 0))) := by rw [eP137, pm_n (pm_nx f133 hnq136)]; exact f133
  have f146 : P137 q113 = some (.inl (ac 2, 480, .inl (fun _ => 0))) := by rw [eP137, pm_n (pm_nx f134 hnq136)]; exact f134
  have f147 : P137 h0 = some (.inr (6, [.int 0, .int 0, .ref q1, .ref q8, .ref q17, .ref q28, .ref q41, .ref q56, .ref q73, .ref q92, .ref q113, .null, .int 0, .int 0, .null, .null, .null, .null, .null, .int 0, .null, .null, .null])) := by rw [eP137, pm_n (pm_nx f135 hnq136)]; exact f135
  have f148 : P137 q136 = some (.inl (ac 0, 20, .inl (fun _ => 0))) := by rw [eP137]; exact pm_s
  have no_q136 : P q136 = none := Classical.byContradiction (fun h => h ((frP125 q136 h (pm_nx f135 hnq136).symm).symm.trans hnq136))
  have ne_q1_q136 : q1 ≠ q136 := pm_nx f126 hnq136
  have ne_q8_q136 : q8 ≠ q136 := pm_nx f127 hnq136
  have ne_q17_q136 : q17 ≠ q136 := pm_nx f128 hnq136
  have ne_q28_q136 : q28 ≠ q136 := pm_nx f129 hnq136
  have ne_q41_q136 : q41 ≠ q136 := pm_nx f130 hnq136
  have ne_q56_q136 : q56 ≠ q136 := pm_nx f131 hnq136
  have ne_q73_q136 : q73 ≠ q136 := pm_nx f132 hnq136
  have ne_q92_q136 : q92 ≠ q136 := pm_nx f133 hnq136
  have ne_q113_q136 : q113 ≠ q136 := pm_nx f134 hnq136
  have frP137 : ∀ a : Nat, P a ≠ none → a ≠ h0 → P137 a = P a := fun a h g0 => by rw [eP137, pm_n (fun e9 => h ((frP125 a h g0).symm.trans (by rw [e9]; exact hnq136)))]; exact (frP125 a h g0)
  refine pm_putF (ci := 6) (v := .ref q136) (ty := .array .int) (C := cn_M) (T := cf_M) (N := 23) hx hb hg gu_M ct_M co_M cm_M hown hK.2.1 hw f147 rfl 11 (by decide) (hg _ gf_M_38) (fun _ h9 => h9) rfl hin rfl (by decide +kernel) rfl rfl (Nat.le_of_ble_eq_true rfl) dd_M_init_82 (fun H locs hw => ?_)
  have hw : pm_W z D cl_w (pm_up P137 h0 (.inr (6, [.int 0, .int 0, .ref q1, .ref q8, .ref q17, .ref q28, .ref q41, .ref q56, .ref q73, .ref q92, .ref q113, .ref q136, .int 0, .int 0, .null, .null, .null, .null, .null, .int 0, .null, .null, .null]))) s.heap H _ := hw
  obtain ⟨P149, eP149⟩ : ∃ pmv : pm_T, pmv = pm_up P137 h0 (.inr (6, [.int 0, .int 0, .ref q1, .ref q8, .ref q17, .ref q28, .ref q41, .ref q56, .ref q73, .ref q92, .ref q113, .ref q136, .int 0, .int 0, .null, .null, .null, .null, .null, .int 0, .null, .null, .null])) := ⟨_, rfl⟩
  rw [← eP149] at hw
  have f150 : P149 q1 = some (.inl (ac 0, 40, .inl (fun _ => 0))) := by rw [eP149, pm_n (pm_ne f138 f147 (by simp))]; exact f138
  have f151 : P149 q8 = some (.inl (ac 0, 40, .inl (fun _ => 0))) := by rw [eP149, pm_n (pm_ne f139 f147 (by simp))]; exact f139
  have f152 : P149 q17 = some (.inl (ac 0, 40, .inl (fun _ => 0))) := by rw [eP149, pm_n (pm_ne f140 f147 (by simp))]; exact f140
  have f153 : P149 q28 = some (.inl (ac 0, 40, .inl (fun _ => 0))) := by rw [eP149, pm_n (pm_ne f141 f147 (by simp))]; exact f141
  have f154 : P149 q41 = some (.inl (ac 0, 40, .inl (fun _ => 0))) := by rw [eP149, pm_n (pm_ne f142 f147 (by simp))]; exact f142
  have f155 : P149 q56 = some (.inl (ac 0, 40, .inl (fun _ => 0))) := by rw [eP149, pm_n (pm_ne f143 f147 (by simp))]; exact f143
  have f156 : P149 q73 = some (.inl (ac 0, 120, .inl (fun _ => 0))) := by rw [eP149, pm_n (pm_ne f144 f147 (by simp))]; exact f144
  have f157 : P149 q92 = some (.inl (ac 0, 120, .inl (fun _ => 0))) := by rw [eP149, pm_n (pm_ne f145 f147 (by simp))]; exact f145
  have f158 : P149 q113 = some (.inl (ac 2, 480, .inl (fun _ => 0))) := by rw [eP149, pm_n (pm_ne f146 f147 (by simp))]; exact f146
  have f159 : P149 q136 = some (.inl (ac 0, 20, .inl (fun _ => 0))) := by rw [eP149, pm_n (pm_ne f148 f147 (by simp))]; exact f148
  have f160 : P149 h0 = some (.inr (6, [.int 0, .int 0, .ref q1, .ref q8, .ref q17, .ref q28, .ref q41, .ref q56, .ref q73, .ref q92, .ref q113, .ref q136, .int 0, .int 0, .null, .null, .null, .null, .null, .int 0, .null, .null, .null])) := by rw [eP149]; exact pm_s
  have frP149 : ∀ a : Nat, P a ≠ none → a ≠ h0 → P149 a = P a := fun a h g0 => by rw [eP149, pm_n g0]; exact (frP137 a h g0)
  refine lv_aload_n hx hb dd_M_init_85 rfl (lv_at hl 0 rfl) ?_
  refine lv_bipush (v := 100) hx hb dd_M_init_86 (by decide) ?_
  refine pm_newa (atype := .int) (N' := 100) (ty := .int) (a0 := (100, .inl (fun _ => 0))) hx hb (hg _ gar_int) rfl hK.2.1 hw 0 rfl (fun _ => rfl) (by decide) (by decide) (by decide) (Nat.le_of_ble_eq_true rfl) (Nat.le_of_ble_eq_true rfl) dd_M_init_88 (fun q161 H hnq161 hw => ?_)
  have hw : pm_W z D cl_w (pm_up P149 q161 (.inl (ac 0, 100, .inl (fun _ => 0)))) s.heap H _ := hw
  obtain ⟨P162, eP162⟩ : ∃ pmv : pm_T, pmv = pm_up P149 q161 (.inl (ac 0, 100, .inl (fun _ => 0))) := ⟨_, rfl⟩
  rw [← eP162] at hw
  have f163 : P162 q1 = some (.inl (ac 0, 40, .inl (fun _ => 0))) := by rw [eP162, pm_n (pm_nx f150 hnq161)]; exact f150
  have f164 : P162 q8 = some (.inl (ac 0, 40, .inl (fun _ => 0))) := by rw [eP162, pm_n (pm_nx f151 hnq161)]; exact f151
  have f165 : P162 q17 = some (.inl (ac 0, 40, .inl (fun _ => 0))) := by rw [eP162, pm_n (pm_nx f152 hnq161)]; exact f152
  have f166 : P162 q28 = some (.inl (ac 0, 40, .inl (fun _ => 0))) := by rw [eP162, pm_n (pm_nx f153 hnq161)]; exact f153
  have f167 : P162 q41 = some (.inl (ac 0, 40, .inl (fun _ => 0))) := by rw [eP162, pm_n (pm_nx f154 hnq161)]; exact f154
  have f168 : P162 q56 = some (.inl (ac 0, 40, .inl (fun _ => 0))) := by rw [eP162, pm_n (pm_nx f155 hnq161)]; exact f155
  have f169 : P162 q73 = some (.inl (ac 0, 120, .inl (fun _ => 0))) := by rw [eP162, pm_n (pm_nx f156 hnq161)]; exact f156
  have f170 : P162 q92 = some (.inl (ac 0, 120, .inl (fun _ => 0))) := by rw [eP162, pm_n (pm_nx f157 hnq161)]; exact f157
  have f171 : P162 q113 = some (.inl (ac 2, 480, .inl (fun _ => 0))) := by rw [eP162, pm_n (pm_nx f158 hnq161)]; exact f158
  have f172 : P162 q136 = some (.inl (ac 0, 20, .inl (fun _ => 0))) := by rw [eP162, pm_n (pm_nx f159 hnq161)]; exact f159
  have f173 : P162 h0 = some (.inr (6, [.int 0, .int 0, .ref q1, .ref q8, .ref q17, .ref q28, .ref q41, .ref q56, .ref q73, .ref q92, .ref q113, .ref q136, .int 0, .int 0, .null, .null, .null, .null, .null, .int 0, .null, .null, .null])) := by rw [eP162, pm_n (pm_nx f160 hnq161)]; exact f160
  have f174 : P162 q161 = some (.inl (ac 0, 100, .inl (fun _ => 0))) := by rw [eP162]; exact pm_s
  have no_q161 : P q161 = none := Classical.byContradiction (fun h => h ((frP149 q161 h (pm_nx f160 hnq161).symm).symm.trans hnq161))
  have ne_q1_q161 : q1 ≠ q161 := pm_nx f150 hnq161
  have ne_q8_q161 : q8 ≠ q161 := pm_nx f151 hnq161
  have ne_q17_q161 : q17 ≠ q161 := pm_nx f152 hnq161
  have ne_q28_q161 : q28 ≠ q161 := pm_nx f153 hnq161
  have ne_q41_q161 : q41 ≠ q161 := pm_nx f154 hnq161
  have ne_q56_q161 : q56 ≠ q161 := pm_nx f155 hnq161
  have ne_q73_q161 : q73 ≠ q161 := pm_nx f156 hnq161
  have ne_q92_q161 : q92 ≠ q161 := pm_nx f157 hnq161
  have ne_q113_q161 : q113 ≠ q161 := pm_nx f158 hnq161
  have ne_q136_q161 : q136 ≠ q161 := pm_nx f159 hnq161
  have frP162 : ∀ a : Nat, P a ≠ none → a ≠ h0 → P162 a = P a := fun a h g0 => by rw [eP162, pm_n (fun e9 => h ((frP149 a h g0).symm.trans (by rw [e9]; exact hnq161)))]; exact (frP149 a h g0)
  refine pm_putF (ci := 6) (v := .ref q161) (ty := .array .int) (C := cn_M) (T := cf_M) (N := 23) hx hb hg gu_M ct_M co_M cm_M hown hK.2.1 hw f173 rfl 14 (by decide) (hg _ gf_M_41) (fun _ h9 => h9) rfl hin rfl (by decide +kernel) rfl rfl (Nat.le_of_ble_eq_true rfl) dd_M_init_90 (fun H locs hw => ?_)
  have hw : pm_W z D cl_w (pm_up P162 h0 (.inr (6, [.int 0, .int 0, .ref q1, .ref q8, .ref q17, .ref q28, .ref q41, .ref q56, .ref q73, .ref q92, .ref q113, .ref q136, .int 0, .int 0, .ref q161, .null, .null, .null, .null, .int 0, .null, .null, .null]))) s.heap H _ := hw
  obtain ⟨P175, eP175⟩ : ∃ pmv : pm_T, pmv = pm_up P162 h0 (.inr (6, [.int 0, .int 0, .ref q1, .ref q8, .ref q17, .ref q28, .ref q41, .ref q56, .ref q73, .ref q92, .ref q113, .ref q136, .int 0, .int 0, .ref q161, .null, .null, .null, .null, .int 0, .null, .null, .null])) := ⟨_, rfl⟩
  rw [← eP175] at hw
  have f176 : P175 q1 = some (.inl (ac 0, 40, .inl (fun _ => 0))) := by rw [eP175, pm_n (pm_ne f163 f173 (by simp))]; exact f163
  have f177 : P175 q8 = some (.inl (ac 0, 40, .inl (fun _ => 0))) := by rw [eP175, pm_n (pm_ne f164 f173 (by simp))]; exact f164
  have f178 : P175 q17 = some (.inl (ac 0, 40, .inl (fun _ => 0))) := by rw [eP175, pm_n (pm_ne f165 f173 (by simp))]; exact f165
  have f179 : P175 q28 = some (.inl (ac 0, 40, .inl (fun _ => 0))) := by rw [eP175, pm_n (pm_ne f166 f173 (by simp))]; exact f166
  have f180 : P175 q41 = some (.inl (ac 0, 40, .inl (fun _ => 0))) := by rw [eP175, pm_n (pm_ne f167 f173 (by simp))]; exact f167
  have f181 : P175 q56 = some (.inl (ac 0, 40, .inl (fun _ => 0))) := by rw [eP175, pm_n (pm_ne f168 f173 (by simp))]; exact f168
  have f182 : P175 q73 = some (.inl (ac 0, 120, .inl (fun _ => 0))) := by rw [eP175, pm_n (pm_ne f169 f173 (by simp))]; exact f169
  have f183 : P175 q92 = some (.inl (ac 0, 120, .inl (fun _ => 0))) := by rw [eP175, pm_n (pm_ne f170 f173 (by simp))]; exact f170
  have f184 : P175 q113 = some (.inl (ac 2, 480, .inl (fun _ => 0))) := by rw [eP175, pm_n (pm_ne f171 f173 (by simp))]; exact f171
  have f185 : P175 q136 = some (.inl (ac 0, 20, .inl (fun _ => 0))) := by rw [eP175, pm_n (pm_ne f172 f173 (by simp))]; exact f172
  have f186 : P175 q161 = some (.inl (ac 0, 100, .inl (fun _ => 0))) := by rw [eP175, pm_n (pm_ne f174 f173 (by simp))]; exact f174
  have f187 : P175 h0 = some (.inr (6, [.int 0, .int 0, .ref q1, .ref q8, .ref q17, .ref q28, .ref q41, .ref q56, .ref q73, .ref q92, .ref q113, .ref q136, .int 0, .int 0, .ref q161, .null, .null, .null, .null, .int 0, .null, .null, .null])) := by rw [eP175]; exact pm_s
  have frP175 : ∀ a : Nat, P a ≠ none → a ≠ h0 → P175 a = P a := fun a h g0 => by rw [eP175, pm_n g0]; exact (frP162 a h g0)
  refine lv_aload_n hx hb dd_M_init_93 rfl (lv_at hl 0 rfl) ?_
  refine lv_bipush (v := 100) hx hb dd_M_init_94 (by decide) ?_
  refine pm_newa (atype := .int) (N' := 100) (ty := .int) (a0 := (100, .inl (fun _ => 0))) hx hb (hg _ gar_int) rfl hK.2.1 hw 0 rfl (fun _ => rfl) (by decide) (by decide) (by decide) (Nat.le_of_ble_eq_true rfl) (Nat.le_of_ble_eq_true rfl) dd_M_init_96 (fun q188 H hnq188 hw => ?_)
  have hw : pm_W z D cl_w (pm_up P175 q188 (.inl (ac 0, 100, .inl (fun _ => 0)))) s.heap H _ := hw
  obtain ⟨P189, eP189⟩ : ∃ pmv : pm_T, pmv = pm_up P175 q188 (.inl (ac 0, 100, .inl (fun _ => 0))) := ⟨_, rfl⟩
  rw [← eP189] at hw
  have f190 : P189 q1 = some (.inl (ac 0, 40, .inl (fun _ => 0))) := by rw [eP189, pm_n (pm_nx f176 hnq188)]; exact f176
  have f191 : P189 q8 = some (.inl (ac 0, 40, .inl (fun _ => 0))) := by rw [eP189, pm_n (pm_nx f177 hnq188)]; exact f177
  have f192 : P189 q17 = some (.inl (ac 0, 40, .inl (fun _ => 0))) := by rw [eP189, pm_n (pm_nx f178 hnq188)]; exact f178
  have f193 : P189 q28 = some (.inl (ac 0, 40, .inl (fun _ => 0))) := by rw [eP189, pm_n (pm_nx f179 hnq188)]; exact f179
  have f194 : P189 q41 = some (.inl (ac 0, 40, .inl (fun _ => 0))) := by rw [eP189, pm_n (pm_nx f180 hnq188)]; exact f180
  have f195 : P189 q56 = some (.inl (ac 0, 40, .inl (fun _ => 0))) := by rw [eP189, pm_n (pm_nx f181 hnq188)]; exact f181
  have f196 : P189 q73 = some (.inl (ac 0, 120, .inl (fun _ => 0))) := by rw [eP189, pm_n (pm_nx f182 hnq188)]; exact f182
  have f197 : P189 q92 = some (.inl (ac 0, 120, .inl (fun _ => 0))) := by rw [eP189, pm_n (pm_nx f183 hnq188)]; exact f183
  have f198 : P189 q113 = some (.inl (ac 2, 480, .inl (fun _ => 0))) := by rw [eP189, pm_n (pm_nx f184 hnq188)]; exact f184
  have f199 : P189 q136 = some (.inl (ac 0, 20, .inl (fun _ => 0))) := by rw [eP189, pm_n (pm_nx f185 hnq188)]; exact f185
  have f200 : P189 q161 = some (.inl (ac 0, 100, .inl (fun _ => 0))) := by rw [eP189, pm_n (pm_nx f186 hnq188)]; exact f186
  have f201 : P189 h0 = some (.inr (6, [.int 0, .int 0, .ref q1, .ref q8, .ref q17, .ref q28, .ref q41, .ref q56, .ref q73, .ref q92, .ref q113, .ref q136, .int 0, .int 0, .ref q161, .null, .null, .null, .null, .int 0, .null, .null, .null])) := by rw [eP189, pm_n (pm_nx f187 hnq188)]; exact f187
  have f202 : P189 q188 = some (.inl (ac 0, 100, .inl (fun _ => 0))) := by rw [eP189]; exact pm_s
  have no_q188 : P q188 = none := Classical.byContradiction (fun h => h ((frP175 q188 h (pm_nx f187 hnq188).symm).symm.trans hnq188))
  have ne_q1_q188 : q1 ≠ q188 := pm_nx f176 hnq188
  have ne_q8_q188 : q8 ≠ q188 := pm_nx f177 hnq188
  have ne_q17_q188 : q17 ≠ q188 := pm_nx f178 hnq188
  have ne_q28_q188 : q28 ≠ q188 := pm_nx f179 hnq188
  have ne_q41_q188 : q41 ≠ q188 := pm_nx f180 hnq188
  have ne_q56_q188 : q56 ≠ q188 := pm_nx f181 hnq188
  have ne_q73_q188 : q73 ≠ q188 := pm_nx f182 hnq188
  have ne_q92_q188 : q92 ≠ q188 := pm_nx f183 hnq188
  have ne_q113_q188 : q113 ≠ q188 := pm_nx f184 hnq188
  have ne_q136_q188 : q136 ≠ q188 := pm_nx f185 hnq188
  have ne_q161_q188 : q161 ≠ q188 := pm_nx f186 hnq188
  have frP189 : ∀ a : Nat, P a ≠ none → a ≠ h0 → P189 a = P a := fun a h g0 => by rw [eP189, pm_n (fun e9 => h ((frP175 a h g0).symm.trans (by rw [e9]; exact hnq188)))]; exact (frP175 a h g0)
  refine pm_putF (ci := 6) (v := .ref q188) (ty := .array .int) (C := cn_M) (T := cf_M) (N := 23) hx hb hg gu_M ct_M co_M cm_M hown hK.2.1 hw f201 rfl 15 (by decide) (hg _ gf_M_44) (fun _ h9 => h9) rfl hin rfl (by decide +kernel) rfl rfl (Nat.le_of_ble_eq_true rfl) dd_M_init_98 (fun H locs hw => ?_)
  have hw : pm_W z D cl_w (pm_up P189 h0 (.inr (6, [.int 0, .int 0, .ref q1, .ref q8, .ref q17, .ref q28, .ref q41, .ref q56, .ref q73, .ref q92, .ref q113, .ref q136, .int 0, .int 0, .ref q161, .ref q188, .null, .null, .null, .int 0, .null, .null, .null]))) s.heap H _ := hw
  obtain ⟨P203, eP203⟩ : ∃ pmv : pm_T, pmv = pm_up P189 h0 (.inr (6, [.int 0, .int 0, .ref q1, .ref q8, .ref q17, .ref q28, .ref q41, .ref q56, .ref q73, .ref q92, .ref q113, .ref q136, .int 0, .int 0, .ref q161, .ref q188, .null, .null, .null, .int 0, .null, .null, .null])) := ⟨_, rfl⟩
  rw [← eP203] at hw
  have f204 : P203 q1 = some (.inl (ac 0, 40, .inl (fun _ => 0))) := by rw [eP203, pm_n (pm_ne f190 f201 (by simp))]; exact f190
  have f205 : P203 q8 = some (.inl (ac 0, 40, .inl (fun _ => 0))) := by rw [eP203, pm_n (pm_ne f191 f201 (by simp))]; exact f191
  have f206 : P203 q17 = some (.inl (ac 0, 40, .inl (fun _ => 0))) := by rw [eP203, pm_n (pm_ne f192 f201 (by simp))]; exact f192
  have f207 : P203 q28 = some (.inl (ac 0, 40, .inl (fun _ => 0))) := by rw [eP203, pm_n (pm_ne f193 f201 (by simp))]; exact f193
  have f208 : P203 q41 = some (.inl (ac 0, 40, .inl (fun _ => 0))) := by rw [eP203, pm_n (pm_ne f194 f201 (by simp))]; exact f194
  have f209 : P203 q56 = some (.inl (ac 0, 40, .inl (fun _ => 0))) := by rw [eP203, pm_n (pm_ne f195 f201 (by simp))]; exact f195
  have f210 : P203 q73 = some (.inl (ac 0, 120, .inl (fun _ => 0))) := by rw [eP203, pm_n (pm_ne f196 f201 (by simp))]; exact f196
  have f211 : P203 q92 = some (.inl (ac 0, 120, .inl (fun _ => 0))) := by rw [eP203, pm_n (pm_ne f197 f201 (by simp))]; exact f197
  have f212 : P203 q113 = some (.inl (ac 2, 480, .inl (fun _ => 0))) := by rw [eP203, pm_n (pm_ne f198 f201 (by simp))]; exact f198
  have f213 : P203 q136 = some (.inl (ac 0, 20, .inl (fun _ => 0))) := by rw [eP203, pm_n (pm_ne f199 f201 (by simp))]; exact f199
  have f214 : P203 q161 = some (.inl (ac 0, 100, .inl (fun _ => 0))) := by rw [eP203, pm_n (pm_ne f200 f201 (by simp))]; exact f200
  have f215 : P203 q188 = some (.inl (ac 0, 100, .inl (fun _ => 0))) := by rw [eP203, pm_n (pm_ne f202 f201 (by simp))]; exact f202
  have f216 : P203 h0 = some (.inr (6, [.int 0, .int 0, .ref q1, .ref q8, .ref q17, .ref q28, .ref q41, .ref q56, .ref q73, .ref q92, .ref q113, .ref q136, .int 0, .int 0, .ref q161, .ref q188, .null, .null, .null, .int 0, .null, .null, .null])) := by rw [eP203]; exact pm_s
  have frP203 : ∀ a : Nat, P a ≠ none → a ≠ h0 → P203 a = P a := fun a h g0 => by rw [eP203, pm_n g0]; exact (frP189 a h g0)
  refine lv_aload_n hx hb dd_M_init_101 rfl (lv_at hl 0 rfl) ?_
  refine lv_bipush (v := 100) hx hb dd_M_init_102 (by decide) ?_
  refine pm_newa (atype := .int) (N' := 100) (ty := .int) (a0 := (100, .inl (fun _ => 0))) hx hb (hg _ gar_int) rfl hK.2.1 hw 0 rfl (fun _ => rfl) (by decide) (by decide) (by decide) (Nat.le_of_ble_eq_true rfl) (Nat.le_of_ble_eq_true rfl) dd_M_init_104 (fun q217 H hnq217 hw => ?_)
  have hw : pm_W z D cl_w (pm_up P203 q217 (.inl (ac 0, 100, .inl (fun _ => 0)))) s.heap H _ := hw
  obtain ⟨P218, eP218⟩ : ∃ pmv : pm_T, pmv = pm_up P203 q217 (.inl (ac 0, 100, .inl (fun _ => 0))) := ⟨_, rfl⟩
  rw [← eP218] at hw
  have f219 : P218 q1 = some (.inl (ac 0, 40, .inl (fun _ => 0))) := by rw [eP218, pm_n (pm_nx f204 hnq217)]; exact f204
  have f220 : P218 q8 = some (.inl (ac 0, 40, .inl (fun _ => 0))) := by rw [eP218, pm_n (pm_nx f205 hnq217)]; exact f205
  have f221 : P218 q17 = some (.inl (ac 0, 40, .inl (fun _ => 0))) := by rw [eP218, pm_n (pm_nx f206 hnq217)]; exact f206
  have f222 : P218 q28 = some (.inl (ac 0, 40, .inl (fun _ => 0))) := by rw [eP218, pm_n (pm_nx f207 hnq217)]; exact f207
  have f223 : P218 q41 = some (.inl (ac 0, 40, .inl (fun _ => 0))) := by rw [eP218, pm_n (pm_nx f208 hnq217)]; exact f208
  have f224 : P218 q56 = some (.inl (ac 0, 40, .inl (fun _ => 0))) := by rw [eP218, pm_n (pm_nx f209 hnq217)]; exact f209
  have f225 : P218 q73 = some (.inl (ac 0, 120, .inl (fun _ => 0))) := by rw [eP218, pm_n (pm_nx f210 hnq217)]; exact f210
  have f226 : P218 q92 = some (.inl (ac 0, 120, .inl (fun _ => 0))) := by rw [eP218, pm_n (pm_nx f211 hnq217)]; exact f211
  have f227 : P218 q113 = some (.inl (ac 2, 480, .inl (fun _ => 0))) := by rw [eP218, pm_n (pm_nx f212 hnq217)]; exact f212
  have f228 : P218 q136 = some (.inl (ac 0, 20, .inl (fun _ => 0))) := by rw [eP218, pm_n (pm_nx f213 hnq217)]; exact f213
  have f229 : P218 q161 = some (.inl (ac 0, 100, .inl (fun _ => 0))) := by rw [eP218, pm_n (pm_nx f214 hnq217)]; exact f214
  have f230 : P218 q188 = some (.inl (ac 0, 100, .inl (fun _ => 0))) := by rw [eP218, pm_n (pm_nx f215 hnq217)]; exact f215
  have f231 : P218 h0 = some (.inr (6, [.int 0, .int 0, .ref q1, .ref q8, .ref q17, .ref q28, .ref q41, .ref q56, .ref q73, .ref q92, .ref q113, .ref q136, .int 0, .int 0, .ref q161, .ref q188, .null, .null, .null, .int 0, .null, .null, .null])) := by rw [eP218, pm_n (pm_nx f216 hnq217)]; exact f216
  have f232 : P218 q217 = some (.inl (ac 0, 100, .inl (fun _ => 0))) := by rw [eP218]; exact pm_s
  have no_q217 : P q217 = none := Classical.byContradiction (fun h => h ((frP203 q217 h (pm_nx f216 hnq217).symm).symm.trans hnq217))
  have ne_q1_q217 : q1 ≠ q217 := pm_nx f204 hnq217
  have ne_q8_q217 : q8 ≠ q217 := pm_nx f205 hnq217
  have ne_q17_q217 : q17 ≠ q217 := pm_nx f206 hnq217
  have ne_q28_q217 : q28 ≠ q217 := pm_nx f207 hnq217
  have ne_q41_q217 : q41 ≠ q217 := pm_nx f208 hnq217
  have ne_q56_q217 : q56 ≠ q217 := pm_nx f209 hnq217
  have ne_q73_q217 : q73 ≠ q217 := pm_nx f210 hnq217
  have ne_q92_q217 : q92 ≠ q217 := pm_nx f211 hnq217
  have ne_q113_q217 : q113 ≠ q217 := pm_nx f212 hnq217
  have ne_q136_q217 : q136 ≠ q217 := pm_nx f213 hnq217
  have ne_q161_q217 : q161 ≠ q217 := pm_nx f214 hnq217
  have ne_q188_q217 : q188 ≠ q217 := pm_nx f215 hnq217
  have frP218 : ∀ a : Nat, P a ≠ none → a ≠ h0 → P218 a = P a := fun a h g0 => by rw [eP218, pm_n (fun e9 => h ((frP203 a h g0).symm.trans (by rw [e9]; exact hnq217)))]; exact (frP203 a h g0)
  refine pm_putF (ci := 6) (v := .ref q217) (ty := .array .int) (C := cn_M) (T := cf_M) (N := 23) hx hb hg gu_M ct_M co_M cm_M hown hK.2.1 hw f231 rfl 16 (by decide) (hg _ gf_M_47) (fun _ h9 => h9) rfl hin rfl (by decide +kernel) rfl rfl (Nat.le_of_ble_eq_true rfl) dd_M_init_106 (fun H locs hw => ?_)
  have hw : pm_W z D cl_w (pm_up P218 h0 (.inr (6, [.int 0, .int 0, .ref q1, .ref q8, .ref q17, .ref q28, .ref q41, .ref q56, .ref q73, .ref q92, .ref q113, .ref q136, .int 0, .int 0, .ref q161, .ref q188, .ref q217, .null, .null, .int 0, .null, .null, .null]))) s.heap H _ := hw
  obtain ⟨P233, eP233⟩ : ∃ pmv : pm_T, pmv = pm_up P218 h0 (.inr (6, [.int 0, .int 0, .ref q1, .ref q8, .ref q17, .ref q28, .ref q41, .ref q56, .ref q73, .ref q92, .ref q113, .ref q136, .int 0, .int 0, .ref q161, .ref q188, .ref q217, .null, .null, .int 0, .null, .null, .null])) := ⟨_, rfl⟩
  rw [← eP233] at hw
  have f234 : P233 q1 = some (.inl (ac 0, 40, .inl (fun _ => 0))) := by rw [eP233, pm_n (pm_ne f219 f231 (by simp))]; exact f219
  have f235 : P233 q8 = some (.inl (ac 0, 40, .inl (fun _ => 0))) := by rw [eP233, pm_n (pm_ne f220 f231 (by simp))]; exact f220
  have f236 : P233 q17 = some (.inl (ac 0, 40, .inl (fun _ => 0))) := by rw [eP233, pm_n (pm_ne f221 f231 (by simp))]; exact f221
  have f237 : P233 q28 = some (.inl (ac 0, 40, .inl (fun _ => 0))) := by rw [eP233, pm_n (pm_ne f222 f231 (by simp))]; exact f222
  have f238 : P233 q41 = some (.inl (ac 0, 40, .inl (fun _ => 0))) := by rw [eP233, pm_n (pm_ne f223 f231 (by simp))]; exact f223
  have f239 : P233 q56 = some (.inl (ac 0, 40, .inl (fun _ => 0))) := by rw [eP233, pm_n (pm_ne f224 f231 (by simp))]; exact f224
  have f240 : P233 q73 = some (.inl (ac 0, 120, .inl (fun _ => 0))) := by rw [eP233, pm_n (pm_ne f225 f231 (by simp))]; exact f225
  have f241 : P233 q92 = some (.inl (ac 0, 120, .inl (fun _ => 0))) := by rw [eP233, pm_n (pm_ne f226 f231 (by simp))]; exact f226
  have f242 : P233 q113 = some (.inl (ac 2, 480, .inl (fun _ => 0))) := by rw [eP233, pm_n (pm_ne f227 f231 (by simp))]; exact f227
  have f243 : P233 q136 = some (.inl (ac 0, 20, .inl (fun _ => 0))) := by rw [eP233, pm_n (pm_ne f228 f231 (by simp))]; exact f228
  have f244 : P233 q161 = some (.inl (ac 0, 100, .inl (fun _ => 0))) := by rw [eP233, pm_n (pm_ne f229 f231 (by simp))]; exact f229
  have f245 : P233 q188 = some (.inl (ac 0, 100, .inl (fun _ => 0))) := by rw [eP233, pm_n (pm_ne f230 f231 (by simp))]; exact f230
  have f246 : P233 q217 = some (.inl (ac 0, 100, .inl (fun _ => 0))) := by rw [eP233, pm_n (pm_ne f232 f231 (by simp))]; exact f232
  have f247 : P233 h0 = some (.inr (6, [.int 0, .int 0, .ref q1, .ref q8, .ref q17, .ref q28, .ref q41, .ref q56, .ref q73, .ref q92, .ref q113, .ref q136, .int 0, .int 0, .ref q161, .ref q188, .ref q217, .null, .null, .int 0, .null, .null, .null])) := by rw [eP233]; exact pm_s
  have frP233 : ∀ a : Nat, P a ≠ none → a ≠ h0 → P233 a = P a := fun a h g0 => by rw [eP233, pm_n g0]; exact (frP218 a h g0)
  refine lv_aload_n hx hb dd_M_init_109 rfl (lv_at hl 0 rfl) ?_
  refine lv_bipush (v := 100) hx hb dd_M_init_110 (by decide) ?_
  refine pm_newa (atype := .int) (N' := 100) (ty := .int) (a0 := (100, .inl (fun _ => 0))) hx hb (hg _ gar_int) rfl hK.2.1 hw 0 rfl (fun _ => rfl) (by decide) (by decide) (by decide) (Nat.le_of_ble_eq_true rfl) (Nat.le_of_ble_eq_true rfl) dd_M_init_112 (fun q248 H hnq248 hw => ?_)
  have hw : pm_W z D cl_w (pm_up P233 q248 (.inl (ac 0, 100, .inl (fun _ => 0)))) s.heap H _ := hw
  obtain ⟨P249, eP249⟩ : ∃ pmv : pm_T, pmv = pm_up P233 q248 (.inl (ac 0, 100, .inl (fun _ => 0))) := ⟨_, rfl⟩
  rw [← eP249] at hw
  have f250 : P249 q1 = some (.inl (ac 0, 40, .inl (fun _ => 0))) := by rw [eP249, pm_n (pm_nx f234 hnq248)]; exact f234
  have f251 : P249 q8 = some (.inl (ac 0, 40, .inl (fun _ => 0))) := by rw [eP249, pm_n (pm_nx f235 hnq248)]; exact f235
  have f252 : P249 q17 = some (.inl (ac 0, 40, .inl (fun _ => 0))) := by rw [eP249, pm_n (pm_nx f236 hnq248)]; exact f236
  have f253 : P249 q28 = some (.inl (ac 0, 40, .inl (fun _ => 0))) := by rw [eP249, pm_n (pm_nx f237 hnq248)]; exact f237
  have f254 : P249 q41 = some (.inl (ac 0, 40, .inl (fun _ => 0))) := by rw [eP249, pm_n (pm_nx f238 hnq248)]; exact f238
  have f255 : P249 q56 = some (.inl (ac 0, 40, .inl (fun _ => 0))) := by rw [eP249, pm_n (pm_nx f239 hnq248)]; exact f239
  have f256 : P249 q73 = some (.inl (ac 0, 120, .inl (fun _ => 0))) := by rw [eP249, pm_n (pm_nx f240 hnq248)]; exact f240
  have f257 : P249 q92 = some (.inl (ac 0, 120, .inl (fun _ => 0))) := by rw [eP249, pm_n (pm_nx f241 hnq248)]; exact f241
  have f258 : P249 q113 = some (.inl (ac 2, 480, .inl (fun _ => 0))) := by rw [eP249, pm_n (pm_nx f242 hnq248)]; exact f242
  have f259 : P249 q136 = some (.inl (ac 0, 20, .inl (fun _ => 0))) := by rw [eP249, pm_n (pm_nx f243 hnq248)]; exact f243
  have f260 : P249 q161 = some (.inl (ac 0, 100, .inl (fun _ => 0))) := by rw [eP249, pm_n (pm_nx f244 hnq248)]; exact f244
  have f261 : P249 q188 = some (.inl (ac 0, 100, .inl (fun _ => 0))) := by rw [eP249, pm_n (pm_nx f245 hnq248)]; exact f245
  have f262 : P249 q217 = some (.inl (ac 0, 100, .inl (fun _ => 0))) := by rw [eP249, pm_n (pm_nx f246 hnq248)]; exact f246
  have f263 : P249 h0 = some (.inr (6, [.int 0, .int 0, .ref q1, .ref q8, .ref q17, .ref q28, .ref q41, .ref q56, .ref q73, .ref q92, .ref q113, .ref q136, .int 0, .int 0, .ref q161, .ref q188, .ref q217, .null, .null, .int 0, .null, .null, .null])) := by rw [eP249, pm_n (pm_nx f247 hnq248)]; exact f247
  have f264 : P249 q248 = some (.inl (ac 0, 100, .inl (fun _ => 0))) := by rw [eP249]; exact pm_s
  have no_q248 : P q248 = none := Classical.byContradiction (fun h => h ((frP233 q248 h (pm_nx f247 hnq248).symm).symm.trans hnq248))
  have ne_q1_q248 : q1 ≠ q248 := pm_nx f234 hnq248
  have ne_q8_q248 : q8 ≠ q248 := pm_nx f235 hnq248
  have ne_q17_q248 : q17 ≠ q248 := pm_nx f236 hnq248
  have ne_q28_q248 : q28 ≠ q248 := pm_nx f237 hnq248
  have ne_q41_q248 : q41 ≠ q248 := pm_nx f238 hnq248
  have ne_q56_q248 : q56 ≠ q248 := pm_nx f239 hnq248
  have ne_q73_q248 : q73 ≠ q248 := pm_nx f240 hnq248
  have ne_q92_q248 : q92 ≠ q248 := pm_nx f241 hnq248
  have ne_q113_q248 : q113 ≠ q248 := pm_nx f242 hnq248
  have ne_q136_q248 : q136 ≠ q248 := pm_nx f243 hnq248
  have ne_q161_q248 : q161 ≠ q248 := pm_nx f244 hnq248
  have ne_q188_q248 : q188 ≠ q248 := pm_nx f245 hnq248
  have ne_q217_q248 : q217 ≠ q248 := pm_nx f246 hnq248
  have frP249 : ∀ a : Nat, P a ≠ none → a ≠ h0 → P249 a = P a := fun a h g0 => by rw [eP249, pm_n (fun e9 => h ((frP233 a h g0).symm.trans (by rw [e9]; exact hnq248)))]; exact (frP233 a h g0)
  refine pm_putF (ci := 6) (v := .ref q248) (ty := .array .int) (C := cn_M) (T := cf_M) (N := 23) hx hb hg gu_M ct_M co_M cm_M hown hK.2.1 hw f263 rfl 17 (by decide) (hg _ gf_M_50) (fun _ h9 => h9) rfl hin rfl (by decide +kernel) rfl rfl (Nat.le_of_ble_eq_true rfl) dd_M_init_114 (fun H locs hw => ?_)
  have hw : pm_W z D cl_w (pm_up P249 h0 (.inr (6, [.int 0, .int 0, .ref q1, .ref q8, .ref q17, .ref q28, .ref q41, .ref q56, .ref q73, .ref q92, .ref q113, .ref q136, .int 0, .int 0, .ref q161, .ref q188, .ref q217, .ref q248, .null, .int 0, .null, .null, .null]))) s.heap H _ := hw
  obtain ⟨P265, eP265⟩ : ∃ pmv : pm_T, pmv = pm_up P249 h0 (.inr (6, [.int 0, .int 0, .ref q1, .ref q8, .ref q17, .ref q28, .ref q41, .ref q56, .ref q73, .ref q92, .ref q113, .ref q136, .int 0, .int 0, .ref q161, .ref q188, .ref q217, .ref q248, .null, .int 0, .null, .null, .null])) := ⟨_, rfl⟩
  rw [← eP265] at hw
  have f266 : P265 q1 = some (.inl (ac 0, 40, .inl (fun _ => 0))) := by rw [eP265, pm_n (pm_ne f250 f263 (by simp))]; exact f250
  have f267 : P265 q8 = some (.inl (ac 0, 40, .inl (fun _ => 0))) := by rw [eP265, pm_n (pm_ne f251 f263 (by simp))]; exact f251
  have f268 : P265 q17 = some (.inl (ac 0, 40, .inl (fun _ => 0))) := by rw [eP265, pm_n (pm_ne f252 f263 (by simp))]; exact f252
  have f269 : P265 q28 = some (.inl (ac 0, 40, .inl (fun _ => 0))) := by rw [eP265, pm_n (pm_ne f253 f263 (by simp))]; exact f253
  have f270 : P265 q41 = some (.inl (ac 0, 40, .inl (fun _ => 0))) := by rw [eP265, pm_n (pm_ne f254 f263 (by simp))]; exact f254
  have f271 : P265 q56 = some (.inl (ac 0, 40, .inl (fun _ => 0))) := by rw [eP265, pm_n (pm_ne f255 f263 (by simp))]; exact f255
  have f272 : P265 q73 = some (.inl (ac 0, 120, .inl (fun _ => 0))) := by rw [eP265, pm_n (pm_ne f256 f263 (by simp))]; exact f256
  have f273 : P265 q92 = some (.inl (ac 0, 120, .inl (fun _ => 0))) := by rw [eP265, pm_n (pm_ne f257 f263 (by simp))]; exact f257
  have f274 : P265 q113 = some (.inl (ac 2, 480, .inl (fun _ => 0))) := by rw [eP265, pm_n (pm_ne f258 f263 (by simp))]; exact f258
  have f275 : P265 q136 = some (.inl (ac 0, 20, .inl (fun _ => 0))) := by rw [eP265, pm_n (pm_ne f259 f263 (by simp))]; exact f259
  have f276 : P265 q161 = some (.inl (ac 0, 100, .inl (fun _ => 0))) := by rw [eP265, pm_n (pm_ne f260 f263 (by simp))]; exact f260
  have f277 : P265 q188 = some (.inl (ac 0, 100, .inl (fun _ => 0))) := by rw [eP265, pm_n (pm_ne f261 f263 (by simp))]; exact f261
  have f278 : P265 q217 = some (.inl (ac 0, 100, .inl (fun _ => 0))) := by rw [eP265, pm_n (pm_ne f262 f263 (by simp))]; exact f262
  have f279 : P265 q248 = some (.inl (ac 0, 100, .inl (fun _ => 0))) := by rw [eP265, pm_n (pm_ne f264 f263 (by simp))]; exact f264
  have f280 : P265 h0 = some (.inr (6, [.int 0, .int 0, .ref q1, .ref q8, .ref q17, .ref q28, .ref q41, .ref q56, .ref q73, .ref q92, .ref q113, .ref q136, .int 0, .int 0, .ref q161, .ref q188, .ref q217, .ref q248, .null, .int 0, .null, .null, .null])) := by rw [eP265]; exact pm_s
  have frP265 : ∀ a : Nat, P a ≠ none → a ≠ h0 → P265 a = P a := fun a h g0 => by rw [eP265, pm_n g0]; exact (frP249 a h g0)
  refine lv_aload_n hx hb dd_M_init_117 rfl (lv_at hl 0 rfl) ?_
  refine lv_bipush (v := 100) hx hb dd_M_init_118 (by decide) ?_
  refine pm_newa (atype := .int) (N' := 100) (ty := .int) (a0 := (100, .inl (fun _ => 0))) hx hb (hg _ gar_int) rfl hK.2.1 hw 0 rfl (fun _ => rfl) (by decide) (by decide) (by decide) (Nat.le_of_ble_eq_true rfl) (Nat.le_of_ble_eq_true rfl) dd_M_init_120 (fun q281 H hnq281 hw => ?_)
  have hw : pm_W z D cl_w (pm_up P265 q281 (.inl (ac 0, 100, .inl (fun _ => 0)))) s.heap H _ := hw
  obtain ⟨P282, eP282⟩ : ∃ pmv : pm_T, pmv = pm_up P265 q281 (.inl (ac 0, 100, .inl (fun _ => 0))) := ⟨_, rfl⟩
  rw [← eP282] at hw
  have f283 : P282 q1 = some (.inl (ac 0, 40, .inl (fun _ => 0))) := by rw [eP282, pm_n (pm_nx f266 hnq281)]; exact f266
  have f284 : P282 q8 = some (.inl (ac 0, 40, .inl (fun _ => 0))) := by rw [eP282, pm_n (pm_nx f267 hnq281)]; exact f267
  have f285 : P282 q17 = some (.inl (ac 0, 40, .inl (fun _ => 0))) := by rw [eP282, pm_n (pm_nx f268 hnq281)]; exact f268
  have f286 : P282 q28 = some (.inl (ac 0, 40, .inl (fun _ => 0))) := by rw [eP282, pm_n (pm_nx f269 hnq281)]; exact f269
  have f287 : P282 q41 = some (.inl (ac 0, 40, .inl (fun _ => 0))) := by rw [eP282, pm_n (pm_nx f270 hnq281)]; exact f270
  have f288 : P282 q56 = some (.inl (ac 0, 40, .inl (fun _ => 0))) := by rw [eP282, pm_n (pm_nx f271 hnq281)]; exact f271
  have f289 : P282 q73 = some (.inl (ac 0, 120, .inl (fun _ => 0))) := by rw [eP282, pm_n (pm_nx f272 hnq281)]; exact f272
  have f290 : P282 q92 = some (.inl (ac 0, 120, .inl (fun _ => 0))) := by rw [eP282, pm_n (pm_nx f273 hnq281)]; exact f273
  have f291 : P282 q113 = some (.inl (ac 2, 480, .inl (fun _ => 0))) := by rw [eP282, pm_n (pm_nx f274 hnq281)]; exact f274
  have f292 : P282 q136 = some (.inl (ac 0, 20, .inl (fun _ => 0))) := by rw [eP282, pm_n (pm_nx f275 hnq281)]; exact f275
  have f293 : P282 q161 = some (.inl (ac 0, 100, .inl (fun _ => 0))) := by rw [eP282, pm_n (pm_nx f276 hnq281)]; exact f276
  have f294 : P282 q188 = some (.inl (ac 0, 100, .inl (fun _ => 0))) := by rw [eP282, pm_n (pm_nx f277 hnq281)]; exact f277
  have f295 : P282 q217 = some (.inl (ac 0, 100, .inl (fun _ => 0))) := by rw [eP282, pm_n (pm_nx f278 hnq281)]; exact f278
  have f296 : P282 q248 = some (.inl (ac 0, 100, .inl (fun _ => 0))) := by rw [eP282, pm_n (pm_nx f279 hnq281)]; exact f279
  have f297 : P282 h0 = some (.inr (6, [.int 0, .int 0, .ref q1, .ref q8, .ref q17, .ref q28, .ref q41, .ref q56, .ref q73, .ref q92, .ref q113, .ref q136, .int 0, .int 0, .ref q161, .ref q188, .ref q217, .ref q248, .null, .int 0, .null, .null, .null])) := by rw [eP282, pm_n (pm_nx f280 hnq281)]; exact f280
  have f298 : P282 q281 = some (.inl (ac 0, 100, .inl (fun _ => 0))) := by rw [eP282]; exact pm_s
  have no_q281 : P q281 = none := Classical.byContradiction (fun h => h ((frP265 q281 h (pm_nx f280 hnq281).symm).symm.trans hnq281))
  have ne_q1_q281 : q1 ≠ q281 := pm_nx f266 hnq281
  have ne_q8_q281 : q8 ≠ q281 := pm_nx f267 hnq281
  have ne_q17_q281 : q17 ≠ q281 := pm_nx f268 hnq281
  have ne_q28_q281 : q28 ≠ q281 := pm_nx f269 hnq281
  have ne_q41_q281 : q41 ≠ q281 := pm_nx f270 hnq281
  have ne_q56_q281 : q56 ≠ q281 := pm_nx f271 hnq281
  have ne_q73_q281 : q73 ≠ q281 := pm_nx f272 hnq281
  have ne_q92_q281 : q92 ≠ q281 := pm_nx f273 hnq281
  have ne_q113_q281 : q113 ≠ q281 := pm_nx f274 hnq281
  have ne_q136_q281 : q136 ≠ q281 := pm_nx f275 hnq281
  have ne_q161_q281 : q161 ≠ q281 := pm_nx f276 hnq281
  have ne_q188_q281 : q188 ≠ q281 := pm_nx f277 hnq281
  have ne_q217_q281 : q217 ≠ q281 := pm_nx f278 hnq281
  have ne_q248_q281 : q248 ≠ q281 := pm_nx f279 hnq281
  have frP282 : ∀ a : Nat, P a ≠ none → a ≠ h0 → P282 a = P a := fun a h g0 => by rw [eP282, pm_n (fun e9 => h ((frP265 a h g0).symm.trans (by rw [e9]; exact hnq281)))]; exact (frP265 a h g0)
  refine pm_putF (ci := 6) (v := .ref q281) (ty := .array .int) (C := cn_M) (T := cf_M) (N := 23) hx hb hg gu_M ct_M co_M cm_M hown hK.2.1 hw f297 rfl 18 (by decide) (hg _ gf_M_53) (fun _ h9 => h9) rfl hin rfl (by decide +kernel) rfl rfl (Nat.le_of_ble_eq_true rfl) dd_M_init_122 (fun H locs hw => ?_)
  have hw : pm_W z D cl_w (pm_up P282 h0 (.inr (6, [.int 0, .int 0, .ref q1, .ref q8, .ref q17, .ref q28, .ref q41, .ref q56, .ref q73, .ref q92, .ref q113, .ref q136, .int 0, .int 0, .ref q161, .ref q188, .ref q217, .ref q248, .ref q281, .int 0, .null, .null, .null]))) s.heap H _ := hw
  obtain ⟨P299, eP299⟩ : ∃ pmv : pm_T, pmv = pm_up P282 h0 (.inr (6, [.int 0, .int 0, .ref q1, .ref q8, .ref q17, .ref q28, .ref q41, .ref q56, .ref q73, .ref q92, .ref q113, .ref q136, .int 0, .int 0, .ref q161, .ref q188, .ref q217, .ref q248, .ref q281, .int 0, .null, .null, .null])) := ⟨_, rfl⟩
  rw [← eP299] at hw
  have f300 : P299 q1 = some (.inl (ac 0, 40, .inl (fun _ => 0))) := by rw [eP299, pm_n (pm_ne f283 f297 (by simp))]; exact f283
  have f301 : P299 q8 = some (.inl (ac 0, 40, .inl (fun _ => 0))) := by rw [eP299, pm_n (pm_ne f284 f297 (by simp))]; exact f284
  have f302 : P299 q17 = some (.inl (ac 0, 40, .inl (fun _ => 0))) := by rw [eP299, pm_n (pm_ne f285 f297 (by simp))]; exact f285
  have f303 : P299 q28 = some (.inl (ac 0, 40, .inl (fun _ => 0))) := by rw [eP299, pm_n (pm_ne f286 f297 (by simp))]; exact f286
  have f304 : P299 q41 = some (.inl (ac 0, 40, .inl (fun _ => 0))) := by rw [eP299, pm_n (pm_ne f287 f297 (by simp))]; exact f287
  have f305 : P299 q56 = some (.inl (ac 0, 40, .inl (fun _ => 0))) := by rw [eP299, pm_n (pm_ne f288 f297 (by simp))]; exact f288
  have f306 : P299 q73 = some (.inl (ac 0, 120, .inl (fun _ => 0))) := by rw [eP299, pm_n (pm_ne f289 f297 (by simp))]; exact f289
  have f307 : P299 q92 = some (.inl (ac 0, 120, .inl (fun _ => 0))) := by rw [eP299, pm_n (pm_ne f290 f297 (by simp))]; exact f290
  have f308 : P299 q113 = some (.inl (ac 2, 480, .inl (fun _ => 0))) := by rw [eP299, pm_n (pm_ne f291 f297 (by simp))]; exact f291
  have f309 : P299 q136 = some (.inl (ac 0, 20, .inl (fun _ => 0))) := by rw [eP299, pm_n (pm_ne f292 f297 (by simp))]; exact f292
  have f310 : P299 q161 = some (.inl (ac 0, 100, .inl (fun _ => 0))) := by rw [eP299, pm_n (pm_ne f293 f297 (by simp))]; exact f293
  have f311 : P299 q188 = some (.inl (ac 0, 100, .inl (fun _ => 0))) := by rw [eP299, pm_n (pm_ne f294 f297 (by simp))]; exact f294
  have f312 : P299 q217 = some (.inl (ac 0, 100, .inl (fun _ => 0))) := by rw [eP299, pm_n (pm_ne f295 f297 (by simp))]; exact f295
  have f313 : P299 q248 = some (.inl (ac 0, 100, .inl (fun _ => 0))) := by rw [eP299, pm_n (pm_ne f296 f297 (by simp))]; exact f296
  have f314 : P299 q281 = some (.inl (ac 0, 100, .inl (fun _ => 0))) := by rw [eP299, pm_n (pm_ne f298 f297 (by simp))]; exact f298
  have f315 : P299 h0 = some (.inr (6, [.int 0, .int 0, .ref q1, .ref q8, .ref q17, .ref q28, .ref q41, .ref q56, .ref q73, .ref q92, .ref q113, .ref q136, .int 0, .int 0, .ref q161, .ref q188, .ref q217, .ref q248, .ref q281, .int 0, .null, .null, .null])) := by rw [eP299]; exact pm_s
  have frP299 : ∀ a : Nat, P a ≠ none → a ≠ h0 → P299 a = P a := fun a h g0 => by rw [eP299, pm_n g0]; exact (frP282 a h g0)
  refine lv_aload_n hx hb dd_M_init_125 rfl (lv_at hl 0 rfl) ?_
  refine lv_bipush (v := 6) hx hb dd_M_init_126 (by decide) ?_
  refine pm_newa (atype := .int) (N' := 6) (ty := .int) (a0 := (6, .inl (fun _ => 0))) hx hb (hg _ gar_int) rfl hK.2.1 hw 0 rfl (fun _ => rfl) (by decide) (by decide) (by decide) (Nat.le_of_ble_eq_true rfl) (Nat.le_of_ble_eq_true rfl) dd_M_init_128 (fun q316 H hnq316 hw => ?_)
  have hw : pm_W z D cl_w (pm_up P299 q316 (.inl (ac 0, 6, .inl (fun _ => 0)))) s.heap H _ := hw
  obtain ⟨P317, eP317⟩ : ∃ pmv : pm_T, pmv = pm_up P299 q316 (.inl (ac 0, 6, .inl (fun _ => 0))) := ⟨_, rfl⟩
  rw [← eP317] at hw
  have f318 : P317 q1 = some (.inl (ac 0, 40, .inl (fun _ => 0))) := by rw [eP317, pm_n (pm_nx f300 hnq316)]; exact f300
  have f319 : P317 q8 = some (.inl (ac 0, 40, .inl (fun _ => 0))) := by rw [eP317, pm_n (pm_nx f301 hnq316)]; exact f301
  have f320 : P317 q17 = some (.inl (ac 0, 40, .inl (fun _ => 0))) := by rw [eP317, pm_n (pm_nx f302 hnq316)]; exact f302
  have f321 : P317 q28 = some (.inl (ac 0, 40, .inl (fun _ => 0))) := by rw [eP317, pm_n (pm_nx f303 hnq316)]; exact f303
  have f322 : P317 q41 = some (.inl (ac 0, 40, .inl (fun _ => 0))) := by rw [eP317, pm_n (pm_nx f304 hnq316)]; exact f304
  have f323 : P317 q56 = some (.inl (ac 0, 40, .inl (fun _ => 0))) := by rw [eP317, pm_n (pm_nx f305 hnq316)]; exact f305
  have f324 : P317 q73 = some (.inl (ac 0, 120, .inl (fun _ => 0))) := by rw [eP317, pm_n (pm_nx f306 hnq316)]; exact f306
  have f325 : P317 q92 = some (.inl (ac 0, 120, .inl (fun _ => 0))) := by rw [eP317, pm_n (pm_nx f307 hnq316)]; exact f307
  have f326 : P317 q113 = some (.inl (ac 2, 480, .inl (fun _ => 0))) := by rw [eP317, pm_n (pm_nx f308 hnq316)]; exact f308
  have f327 : P317 q136 = some (.inl (ac 0, 20, .inl (fun _ => 0))) := by rw [eP317, pm_n (pm_nx f309 hnq316)]; exact f309
  have f328 : P317 q161 = some (.inl (ac 0, 100, .inl (fun _ => 0))) := by rw [eP317, pm_n (pm_nx f310 hnq316)]; exact f310
  have f329 : P317 q188 = some (.inl (ac 0, 100, .inl (fun _ => 0))) := by rw [eP317, pm_n (pm_nx f311 hnq316)]; exact f311
  have f330 : P317 q217 = some (.inl (ac 0, 100, .inl (fun _ => 0))) := by rw [eP317, pm_n (pm_nx f312 hnq316)]; exact f312
  have f331 : P317 q248 = some (.inl (ac 0, 100, .inl (fun _ => 0))) := by rw [eP317, pm_n (pm_nx f313 hnq316)]; exact f313
  have f332 : P317 q281 = some (.inl (ac 0, 100, .inl (fun _ => 0))) := by rw [eP317, pm_n (pm_nx f314 hnq316)]; exact f314
  have f333 : P317 h0 = some (.inr (6, [.int 0, .int 0, .ref q1, .ref q8, .ref q17, .ref q28, .ref q41, .ref q56, .ref q73, .ref q92, .ref q113, .ref q136, .int 0, .int 0, .ref q161, .ref q188, .ref q217, .ref q248, .ref q281, .int 0, .null, .null, .null])) := by rw [eP317, pm_n (pm_nx f315 hnq316)]; exact f315
  have f334 : P317 q316 = some (.inl (ac 0, 6, .inl (fun _ => 0))) := by rw [eP317]; exact pm_s
  have no_q316 : P q316 = none := Classical.byContradiction (fun h => h ((frP299 q316 h (pm_nx f315 hnq316).symm).symm.trans hnq316))
  have ne_q1_q316 : q1 ≠ q316 := pm_nx f300 hnq316
  have ne_q8_q316 : q8 ≠ q316 := pm_nx f301 hnq316
  have ne_q17_q316 : q17 ≠ q316 := pm_nx f302 hnq316
  have ne_q28_q316 : q28 ≠ q316 := pm_nx f303 hnq316
  have ne_q41_q316 : q41 ≠ q316 := pm_nx f304 hnq316
  have ne_q56_q316 : q56 ≠ q316 := pm_nx f305 hnq316
  have ne_q73_q316 : q73 ≠ q316 := pm_nx f306 hnq316
  have ne_q92_q316 : q92 ≠ q316 := pm_nx f307 hnq316
  have ne_q113_q316 : q113 ≠ q316 := pm_nx f308 hnq316
  have ne_q136_q316 : q136 ≠ q316 := pm_nx f309 hnq316
  have ne_q161_q316 : q161 ≠ q316 := pm_nx f310 hnq316
  have ne_q188_q316 : q188 ≠ q316 := pm_nx f311 hnq316
  have ne_q217_q316 : q217 ≠ q316 := pm_nx f312 hnq316
  have ne_q248_q316 : q248 ≠ q316 := pm_nx f313 hnq316
  have ne_q281_q316 : q281 ≠ q316 := pm_nx f314 hnq316
  have frP317 : ∀ a : Nat, P a ≠ none → a ≠ h0 → P317 a = P a := fun a h g0 => by rw [eP317, pm_n (fun e9 => h ((frP299 a h g0).symm.trans (by rw [e9]; exact hnq316)))]; exact (frP299 a h g0)
  refine pm_putF (ci := 6) (v := .ref q316) (ty := .array .int) (C := cn_M) (T := cf_M) (N := 23) hx hb hg gu_M ct_M co_M cm_M hown hK.2.1 hw f333 rfl 20 (by decide) (hg _ gf_M_56) (fun _ h9 => h9) rfl hin rfl (by decide +kernel) rfl rfl (Nat.le_of_ble_eq_true rfl) dd_M_init_130 (fun H locs hw => ?_)
  have hw : pm_W z D cl_w (pm_up P317 h0 (.inr (6, [.int 0, .int 0, .ref q1, .ref q8, .ref q17, .ref q28, .ref q41, .ref q56, .ref q73, .ref q92, .ref q113, .ref q136, .int 0, .int 0, .ref q161, .ref q188, .ref q217, .ref q248, .ref q281, .int 0, .ref q316, .null, .null]))) s.heap H _ := hw
  obtain ⟨P335, eP335⟩ : ∃ pmv : pm_T, pmv = pm_up P317 h0 (.inr (6, [.int 0, .int 0, .ref q1, .ref q8, .ref q17, .ref q28, .ref q41, .ref q56, .ref q73, .ref q92, .ref q113, .ref q136, .int 0, .int 0, .ref q161, .ref q188, .ref q217, .ref q248, .ref q281, .int 0, .ref q316, .null, .null])) := ⟨_, rfl⟩
  rw [← eP335] at hw
  have f336 : P335 q1 = some (.inl (ac 0, 40, .inl (fun _ => 0))) := by rw [eP335, pm_n (pm_ne f318 f333 (by simp))]; exact f318
  have f337 : P335 q8 = some (.inl (ac 0, 40, .inl (fun _ => 0))) := by rw [eP335, pm_n (pm_ne f319 f333 (by simp))]; exact f319
  have f338 : P335 q17 = some (.inl (ac 0, 40, .inl (fun _ => 0))) := by rw [eP335, pm_n (pm_ne f320 f333 (by simp))]; exact f320
  have f339 : P335 q28 = some (.inl (ac 0, 40, .inl (fun _ => 0))) := by rw [eP335, pm_n (pm_ne f321 f333 (by simp))]; exact f321
  have f340 : P335 q41 = some (.inl (ac 0, 40, .inl (fun _ => 0))) := by rw [eP335, pm_n (pm_ne f322 f333 (by simp))]; exact f322
  have f341 : P335 q56 = some (.inl (ac 0, 40, .inl (fun _ => 0))) := by rw [eP335, pm_n (pm_ne f323 f333 (by simp))]; exact f323
  have f342 : P335 q73 = some (.inl (ac 0, 120, .inl (fun _ => 0))) := by rw [eP335, pm_n (pm_ne f324 f333 (by simp))]; exact f324
  have f343 : P335 q92 = some (.inl (ac 0, 120, .inl (fun _ => 0))) := by rw [eP335, pm_n (pm_ne f325 f333 (by simp))]; exact f325
  have f344 : P335 q113 = some (.inl (ac 2, 480, .inl (fun _ => 0))) := by rw [eP335, pm_n (pm_ne f326 f333 (by simp))]; exact f326
  have f345 : P335 q136 = some (.inl (ac 0, 20, .inl (fun _ => 0))) := by rw [eP335, pm_n (pm_ne f327 f333 (by simp))]; exact f327
  have f346 : P335 q161 = some (.inl (ac 0, 100, .inl (fun _ => 0))) := by rw [eP335, pm_n (pm_ne f328 f333 (by simp))]; exact f328
  have f347 : P335 q188 = some (.inl (ac 0, 100, .inl (fun _ => 0))) := by rw [eP335, pm_n (pm_ne f329 f333 (by simp))]; exact f329
  have f348 : P335 q217 = some (.inl (ac 0, 100, .inl (fun _ => 0))) := by rw [eP335, pm_n (pm_ne f330 f333 (by simp))]; exact f330
  have f349 : P335 q248 = some (.inl (ac 0, 100, .inl (fun _ => 0))) := by rw [eP335, pm_n (pm_ne f331 f333 (by simp))]; exact f331
  have f350 : P335 q281 = some (.inl (ac 0, 100, .inl (fun _ => 0))) := by rw [eP335, pm_n (pm_ne f332 f333 (by simp))]; exact f332
  have f351 : P335 q316 = some (.inl (ac 0, 6, .inl (fun _ => 0))) := by rw [eP335, pm_n (pm_ne f334 f333 (by simp))]; exact f334
  have f352 : P335 h0 = some (.inr (6, [.int 0, .int 0, .ref q1, .ref q8, .ref q17, .ref q28, .ref q41, .ref q56, .ref q73, .ref q92, .ref q113, .ref q136, .int 0, .int 0, .ref q161, .ref q188, .ref q217, .ref q248, .ref q281, .int 0, .ref q316, .null, .null])) := by rw [eP335]; exact pm_s
  have frP335 : ∀ a : Nat, P a ≠ none → a ≠ h0 → P335 a = P a := fun a h g0 => by rw [eP335, pm_n g0]; exact (frP317 a h g0)
  refine lv_aload_n hx hb dd_M_init_133 rfl (lv_at hl 0 rfl) ?_
  refine lv_bipush (v := 6) hx hb dd_M_init_134 (by decide) ?_
  refine pm_newa (atype := .int) (N' := 6) (ty := .int) (a0 := (6, .inl (fun _ => 0))) hx hb (hg _ gar_int) rfl hK.2.1 hw 0 rfl (fun _ => rfl) (by decide) (by decide) (by decide) (Nat.le_of_ble_eq_true rfl) (Nat.le_of_ble_eq_true rfl) dd_M_init_136 (fun q353 H hnq353 hw => ?_)
  have hw : pm_W z D cl_w (pm_up P335 q353 (.inl (ac 0, 6, .inl (fun _ => 0)))) s.heap H _ := hw
  obtain ⟨P354, eP354⟩ : ∃ pmv : pm_T, pmv = pm_up P335 q353 (.inl (ac 0, 6, .inl (fun _ => 0))) := ⟨_, rfl⟩
  rw [← eP354] at hw
  have f355 : P354 q1 = some (.inl (ac 0, 40, .inl (fun _ => 0))) := by rw [eP354, pm_n (pm_nx f336 hnq353)]; exact f336
  have f356 : P354 q8 = some (.inl (ac 0, 40, .inl (fun _ => 0))) := by rw [eP354, pm_n (pm_nx f337 hnq353)]; exact f337
  have f357 : P354 q17 = some (.inl (ac 0, 40, .inl (fun _ => 0))) := by rw [eP354, pm_n (pm_nx f338 hnq353)]; exact f338
  have f358 : P354 q28 = some (.inl (ac 0, 40, .inl (fun _ => 0))) := by rw [eP354, pm_n (pm_nx f339 hnq353)]; exact f339
  have f359 : P354 q41 = some (.inl (ac 0, 40, .inl (fun _ => 0))) := by rw [eP354, pm_n (pm_nx f340 hnq353)]; exact f340
  have f360 : P354 q56 = some (.inl (ac 0, 40, .inl (fun _ => 0))) := by rw [eP354, pm_n (pm_nx f341 hnq353)]; exact f341
  have f361 : P354 q73 = some (.inl (ac 0, 120, .inl (fun _ => 0))) := by rw [eP354, pm_n (pm_nx f342 hnq353)]; exact f342
  have f362 : P354 q92 = some (.inl (ac 0, 120, .inl (fun _ => 0))) := by rw [eP354, pm_n (pm_nx f343 hnq353)]; exact f343
  have f363 : P354 q113 = some (.inl (ac 2, 480, .inl (fun _ => 0))) := by rw [eP354, pm_n (pm_nx f344 hnq353)]; exact f344
  have f364 : P354 q136 = some (.inl (ac 0, 20, .inl (fun _ => 0))) := by rw [eP354, pm_n (pm_nx f345 hnq353)]; exact f345
  have f365 : P354 q161 = some (.inl (ac 0, 100, .inl (fun _ => 0))) := by rw [eP354, pm_n (pm_nx f346 hnq353)]; exact f346
  have f366 : P354 q188 = some (.inl (ac 0, 100, .inl (fun _ => 0))) := by rw [eP354, pm_n (pm_nx f347 hnq353)]; exact f347
  have f367 : P354 q217 = some (.inl (ac 0, 100, .inl (fun _ => 0))) := by rw [eP354, pm_n (pm_nx f348 hnq353)]; exact f348
  have f368 : P354 q248 = some (.inl (ac 0, 100, .inl (fun _ => 0))) := by rw [eP354, pm_n (pm_nx f349 hnq353)]; exact f349
  have f369 : P354 q281 = some (.inl (ac 0, 100, .inl (fun _ => 0))) := by rw [eP354, pm_n (pm_nx f350 hnq353)]; exact f350
  have f370 : P354 q316 = some (.inl (ac 0, 6, .inl (fun _ => 0))) := by rw [eP354, pm_n (pm_nx f351 hnq353)]; exact f351
  have f371 : P354 h0 = some (.inr (6, [.int 0, .int 0, .ref q1, .ref q8, .ref q17, .ref q28, .ref q41, .ref q56, .ref q73, .ref q92, .ref q113, .ref q136, .int 0, .int 0, .ref q161, .ref q188, .ref q217, .ref q248, .ref q281, .int 0, .ref q316, .null, .null])) := by rw [eP354, pm_n (pm_nx f352 hnq353)]; exact f352
  have f372 : P354 q353 = some (.inl (ac 0, 6, .inl (fun _ => 0))) := by rw [eP354]; exact pm_s
  have no_q353 : P q353 = none := Classical.byContradiction (fun h => h ((frP335 q353 h (pm_nx f352 hnq353).symm).symm.trans hnq353))
  have ne_q1_q353 : q1 ≠ q353 := pm_nx f336 hnq353
  have ne_q8_q353 : q8 ≠ q353 := pm_nx f337 hnq353
  have ne_q17_q353 : q17 ≠ q353 := pm_nx f338 hnq353
  have ne_q28_q353 : q28 ≠ q353 := pm_nx f339 hnq353
  have ne_q41_q353 : q41 ≠ q353 := pm_nx f340 hnq353
  have ne_q56_q353 : q56 ≠ q353 := pm_nx f341 hnq353
  have ne_q73_q353 : q73 ≠ q353 := pm_nx f342 hnq353
  have ne_q92_q353 : q92 ≠ q353 := pm_nx f343 hnq353
  have ne_q113_q353 : q113 ≠ q353 := pm_nx f344 hnq353
  have ne_q136_q353 : q136 ≠ q353 := pm_nx f345 hnq353
  have ne_q161_q353 : q161 ≠ q353 := pm_nx f346 hnq353
  have ne_q188_q353 : q188 ≠ q353 := pm_nx f347 hnq353
  have ne_q217_q353 : q217 ≠ q353 := pm_nx f348 hnq353
  have ne_q248_q353 : q248 ≠ q353 := pm_nx f349 hnq353
  have ne_q281_q353 : q281 ≠ q353 := pm_nx f350 hnq353
  have ne_q316_q353 : q316 ≠ q353 := pm_nx f351 hnq353
  have frP354 : ∀ a : Nat, P a ≠ none → a ≠ h0 → P354 a = P a := fun a h g0 => by rw [eP354, pm_n (fun e9 => h ((frP335 a h g0).symm.trans (by rw [e9]; exact hnq353)))]; exact (frP335 a h g0)
  refine pm_putF (ci := 6) (v := .ref q353) (ty := .array .int) (C := cn_M) (T := cf_M) (N := 23) hx hb hg gu_M ct_M co_M cm_M hown hK.2.1 hw f371 rfl 21 (by decide) (hg _ gf_M_59) (fun _ h9 => h9) rfl hin rfl (by decide +kernel) rfl rfl (Nat.le_of_ble_eq_true rfl) dd_M_init_138 (fun H locs hw => ?_)
  have hw : pm_W z D cl_w (pm_up P354 h0 (.inr (6, [.int 0, .int 0, .ref q1, .ref q8, .ref q17, .ref q28, .ref q41, .ref q56, .ref q73, .ref q92, .ref q113, .ref q136, .int 0, .int 0, .ref q161, .ref q188, .ref q217, .ref q248, .ref q281, .int 0, .ref q316, .ref q353, .null]))) s.heap H _ := hw
  obtain ⟨P373, eP373⟩ : ∃ pmv : pm_T, pmv = pm_up P354 h0 (.inr (6, [.int 0, .int 0, .ref q1, .ref q8, .ref q17, .ref q28, .ref q41, .ref q56, .ref q73, .ref q92, .ref q113, .ref q136, .int 0, .int 0, .ref q161, .ref q188, .ref q217, .ref q248, .ref q281, .int 0, .ref q316, .ref q353, .null])) := ⟨_, rfl⟩
  rw [← eP373] at hw
  have f374 : P373 q1 = some (.inl (ac 0, 40, .inl (fun _ => 0))) := by rw [eP373, pm_n (pm_ne f355 f371 (by simp))]; exact f355
  have f375 : P373 q8 = some (.inl (ac 0, 40, .inl (fun _ => 0))) := by rw [eP373, pm_n (pm_ne f356 f371 (by simp))]; exact f356
  have f376 : P373 q17 = some (.inl (ac 0, 40, .inl (fun _ => 0))) := by rw [eP373, pm_n (pm_ne f357 f371 (by simp))]; exact f357
  have f377 : P373 q28 = some (.inl (ac 0, 40, .inl (fun _ => 0))) := by rw [eP373, pm_n (pm_ne f358 f371 (by simp))]; exact f358
  have f378 : P373 q41 = some (.inl (ac 0, 40, .inl (fun _ => 0))) := by rw [eP373, pm_n (pm_ne f359 f371 (by simp))]; exact f359
  have f379 : P373 q56 = some (.inl (ac 0, 40, .inl (fun _ => 0))) := by rw [eP373, pm_n (pm_ne f360 f371 (by simp))]; exact f360
  have f380 : P373 q73 = some (.inl (ac 0, 120, .inl (fun _ => 0))) := by rw [eP373, pm_n (pm_ne f361 f371 (by simp))]; exact f361
  have f381 : P373 q92 = some (.inl (ac 0, 120, .inl (fun _ => 0))) := by rw [eP373, pm_n (pm_ne f362 f371 (by simp))]; exact f362
  have f382 : P373 q113 = some (.inl (ac 2, 480, .inl (fun _ => 0))) := by rw [eP373, pm_n (pm_ne f363 f371 (by simp))]; exact f363
  have f383 : P373 q136 = some (.inl (ac 0, 20, .inl (fun _ => 0))) := by rw [eP373, pm_n (pm_ne f364 f371 (by simp))]; exact f364
  have f384 : P373 q161 = some (.inl (ac 0, 100, .inl (fun _ => 0))) := by rw [eP373, pm_n (pm_ne f365 f371 (by simp))]; exact f365
  have f385 : P373 q188 = some (.inl (ac 0, 100, .inl (fun _ => 0))) := by rw [eP373, pm_n (pm_ne f366 f371 (by simp))]; exact f366
  have f386 : P373 q217 = some (.inl (ac 0, 100, .inl (fun _ => 0))) := by rw [eP373, pm_n (pm_ne f367 f371 (by simp))]; exact f367
  have f387 : P373 q248 = some (.inl (ac 0, 100, .inl (fun _ => 0))) := by rw [eP373, pm_n (pm_ne f368 f371 (by simp))]; exact f368
  have f388 : P373 q281 = some (.inl (ac 0, 100, .inl (fun _ => 0))) := by rw [eP373, pm_n (pm_ne f369 f371 (by simp))]; exact f369
  have f389 : P373 q316 = some (.inl (ac 0, 6, .inl (fun _ => 0))) := by rw [eP373, pm_n (pm_ne f370 f371 (by simp))]; exact f370
  have f390 : P373 q353 = some (.inl (ac 0, 6, .inl (fun _ => 0))) := by rw [eP373, pm_n (pm_ne f372 f371 (by simp))]; exact f372
  have f391 : P373 h0 = some (.inr (6, [.int 0, .int 0, .ref q1, .ref q8, .ref q17, .ref q28, .ref q41, .ref q56, .ref q73, .ref q92, .ref q113, .ref q136, .int 0, .int 0, .ref q161, .ref q188, .ref q217, .ref q248, .ref q281, .int 0, .ref q316, .ref q353, .null])) := by rw [eP373]; exact pm_s
  have frP373 : ∀ a : Nat, P a ≠ none → a ≠ h0 → P373 a = P a := fun a h g0 => by rw [eP373, pm_n g0]; exact (frP354 a h g0)
  refine lv_aload_n hx hb dd_M_init_141 rfl (lv_at hl 0 rfl) ?_
  refine lv_bipush (v := 6) hx hb dd_M_init_142 (by decide) ?_
  refine pm_newa (atype := .int) (N' := 6) (ty := .int) (a0 := (6, .inl (fun _ => 0))) hx hb (hg _ gar_int) rfl hK.2.1 hw 0 rfl (fun _ => rfl) (by decide) (by decide) (by decide) (Nat.le_of_ble_eq_true rfl) (Nat.le_of_ble_eq_true rfl) dd_M_init_144 (fun q392 H hnq392 hw => ?_)
  have hw : pm_W z D cl_w (pm_up P373 q392 (.inl (ac 0, 6, .inl (fun _ => 0)))) s.heap H _ := hw
  obtain ⟨P393, eP393⟩ : ∃ pmv : pm_T, pmv = pm_up P373 q392 (.inl (ac 0, 6, .inl (fun _ => 0))) := ⟨_, rfl⟩
  rw [← eP393] at hw
  have f394 : P393 q1 = some (.inl (ac 0, 40, .inl (fun _ => 0))) := by rw [eP393, pm_n (pm_nx f374 hnq392)]; exact f374
  have f395 : P393 q8 = some (.inl (ac 0, 40, .inl (fun _ => 0))) := by rw [eP393, pm_n (pm_nx f375 hnq392)]; exact f375
  have f396 : P393 q17 = some (.inl (ac 0, 40, .inl (fun _ => 0))) := by rw [eP393, pm_n (pm_nx f376 hnq392)]; exact f376
  have f397 : P393 q28 = some (.inl (ac 0, 40, .inl (fun _ => 0))) := by rw [eP393, pm_n (pm_nx f377 hnq392)]; exact f377
  have f398 : P393 q41 = some (.inl (ac 0, 40, .inl (fun _ => 0))) := by rw [eP393, pm_n (pm_nx f378 hnq392)]; exact f378
  have f399 : P393 q56 = some (.inl (ac 0, 40, .inl (fun _ => 0))) := by rw [eP393, pm_n (pm_nx f379 hnq392)]; exact f379
  have f400 : P393 q73 = some (.inl (ac 0, 120, .inl (fun _ => 0))) := by rw [eP393, pm_n (pm_nx f380 hnq392)]; exact f380
  have f401 : P393 q92 = some (.inl (ac 0, 120, .inl (fun _ => 0))) := by rw [eP393, pm_n (pm_nx f381 hnq392)]; exact f381
  have f402 : P393 q113 = some (.inl (ac 2, 480, .inl (fun _ => 0))) := by rw [eP393, pm_n (pm_nx f382 hnq392)]; exact f382
  have f403 : P393 q136 = some (.inl (ac 0, 20, .inl (fun _ => 0))) := by rw [eP393, pm_n (pm_nx f383 hnq392)]; exact f383
  have f404 : P393 q161 = some (.inl (ac 0, 100, .inl (fun _ => 0))) := by rw [eP393, pm_n (pm_nx f384 hnq392)]; exact f384
  have f405 : P393 q188 = some (.inl (ac 0, 100, .inl (fun _ => 0))) := by rw [eP393, pm_n (pm_nx f385 hnq392)]; exact f385
  have f406 : P393 q217 = some (.inl (ac 0, 100, .inl (fun _ => 0))) := by rw [eP393, pm_n (pm_nx f386 hnq392)]; exact f386
  have f407 : P393 q248 = some (.inl (ac 0, 100, .inl (fun _ => 0))) := by rw [eP393, pm_n (pm_nx f387 hnq392)]; exact f387
  have f408 : P393 q281 = some (.inl (ac 0, 100, .inl (fun _ => 0))) := by rw [eP393, pm_n (pm_nx f388 hnq392)]; exact f388
  have f409 : P393 q316 = some (.inl (ac 0, 6, .inl (fun _ => 0))) := by rw [eP393, pm_n (pm_nx f389 hnq392)]; exact f389
  have f410 : P393 q353 = some (.inl (ac 0, 6, .inl (fun _ => 0))) := by rw [eP393, pm_n (pm_nx f390 hnq392)]; exact f390
  have f411 : P393 h0 = some (.inr (6, [.int 0, .int 0, .ref q1, .ref q8, .ref q17, .ref q28, .ref q41, .ref q56, .ref q73, .ref q92, .ref q113, .ref q136, .int 0, .int 0, .ref q161, .ref q188, .ref q217, .ref q248, .ref q281, .int 0, .ref q316, .ref q353, .null])) := by rw [eP393, pm_n (pm_nx f391 hnq392)]; exact f391
  have f412 : P393 q392 = some (.inl (ac 0, 6, .inl (fun _ => 0))) := by rw [eP393]; exact pm_s
  have no_q392 : P q392 = none := Classical.byContradiction (fun h => h ((frP373 q392 h (pm_nx f391 hnq392).symm).symm.trans hnq392))
  have ne_q1_q392 : q1 ≠ q392 := pm_nx f374 hnq392
  have ne_q8_q392 : q8 ≠ q392 := pm_nx f375 hnq392
  have ne_q17_q392 : q17 ≠ q392 := pm_nx f376 hnq392
  have ne_q28_q392 : q28 ≠ q392 := pm_nx f377 hnq392
  have ne_q41_q392 : q41 ≠ q392 := pm_nx f378 hnq392
  have ne_q56_q392 : q56 ≠ q392 := pm_nx f379 hnq392
  have ne_q73_q392 : q73 ≠ q392 := pm_nx f380 hnq392
  have ne_q92_q392 : q92 ≠ q392 := pm_nx f381 hnq392
  have ne_q113_q392 : q113 ≠ q392 := pm_nx f382 hnq392
  have ne_q136_q392 : q136 ≠ q392 := pm_nx f383 hnq392
  have ne_q161_q392 : q161 ≠ q392 := pm_nx f384 hnq392
  have ne_q188_q392 : q188 ≠ q392 := pm_nx f385 hnq392
  have ne_q217_q392 : q217 ≠ q392 := pm_nx f386 hnq392
  have ne_q248_q392 : q248 ≠ q392 := pm_nx f387 hnq392
  have ne_q281_q392 : q281 ≠ q392 := pm_nx f388 hnq392
  have ne_q316_q392 : q316 ≠ q392 := pm_nx f389 hnq392
  have ne_q353_q392 : q353 ≠ q392 := pm_nx f390 hnq392
  have frP393 : ∀ a : Nat, P a ≠ none → a ≠ h0 → P393 a = P a := fun a h g0 => by rw [eP393, pm_n (fun e9 => h ((frP373 a h g0).symm.trans (by rw [e9]; exact hnq392)))]; exact (frP373 a h g0)
  refine pm_putF (ci := 6) (v := .ref q392) (ty := .array .int) (C := cn_M) (T := cf_M) (N := 23) hx hb hg gu_M ct_M co_M cm_M hown hK.2.1 hw f411 rfl 22 (by decide) (hg _ gf_M_62) (fun _ h9 => h9) rfl hin rfl (by decide +kernel) rfl rfl (Nat.le_of_ble_eq_true rfl) dd_M_init_146 (fun H locs hw => ?_)
  have hw : pm_W z D cl_w (pm_up P393 h0 (.inr (6, [.int 0, .int 0, .ref q1, .ref q8, .ref q17, .ref q28, .ref q41, .ref q56, .ref q73, .ref q92, .ref q113, .ref q136, .int 0, .int 0, .ref q161, .ref q188, .ref q217, .ref q248, .ref q281, .int 0, .ref q316, .ref q353, .ref q392]))) s.heap H _ := hw
  obtain ⟨P413, eP413⟩ : ∃ pmv : pm_T, pmv = pm_up P393 h0 (.inr (6, [.int 0, .int 0, .ref q1, .ref q8, .ref q17, .ref q28, .ref q41, .ref q56, .ref q73, .ref q92, .ref q113, .ref q136, .int 0, .int 0, .ref q161, .ref q188, .ref q217, .ref q248, .ref q281, .int 0, .ref q316, .ref q353, .ref q392])) := ⟨_, rfl⟩
  rw [← eP413] at hw
  have f414 : P413 q1 = some (.inl (ac 0, 40, .inl (fun _ => 0))) := by rw [eP413, pm_n (pm_ne f394 f411 (by simp))]; exact f394
  have f415 : P413 q8 = some (.inl (ac 0, 40, .inl (fun _ => 0))) := by rw [eP413, pm_n (pm_ne f395 f411 (by simp))]; exact f395
  have f416 : P413 q17 = some (.inl (ac 0, 40, .inl (fun _ => 0))) := by rw [eP413, pm_n (pm_ne f396 f411 (by simp))]; exact f396
  have f417 : P413 q28 = some (.inl (ac 0, 40, .inl (fun _ => 0))) := by rw [eP413, pm_n (pm_ne f397 f411 (by simp))]; exact f397
  have f418 : P413 q41 = some (.inl (ac 0, 40, .inl (fun _ => 0))) := by rw [eP413, pm_n (pm_ne f398 f411 (by simp))]; exact f398
  have f419 : P413 q56 = some (.inl (ac 0, 40, .inl (fun _ => 0))) := by rw [eP413, pm_n (pm_ne f399 f411 (by simp))]; exact f399
  have f420 : P413 q73 = some (.inl (ac 0, 120, .inl (fun _ => 0))) := by rw [eP413, pm_n (pm_ne f400 f411 (by simp))]; exact f400
  have f421 : P413 q92 = some (.inl (ac 0, 120, .inl (fun _ => 0))) := by rw [eP413, pm_n (pm_ne f401 f411 (by simp))]; exact f401
  have f422 : P413 q113 = some (.inl (ac 2, 480, .inl (fun _ => 0))) := by rw [eP413, pm_n (pm_ne f402 f411 (by simp))]; exact f402
  have f423 : P413 q136 = some (.inl (ac 0, 20, .inl (fun _ => 0))) := by rw [eP413, pm_n (pm_ne f403 f411 (by simp))]; exact f403
  have f424 : P413 q161 = some (.inl (ac 0, 100, .inl (fun _ => 0))) := by rw [eP413, pm_n (pm_ne f404 f411 (by simp))]; exact f404
  have f425 : P413 q188 = some (.inl (ac 0, 100, .inl (fun _ => 0))) := by rw [eP413, pm_n (pm_ne f405 f411 (by simp))]; exact f405
  have f426 : P413 q217 = some (.inl (ac 0, 100, .inl (fun _ => 0))) := by rw [eP413, pm_n (pm_ne f406 f411 (by simp))]; exact f406
  have f427 : P413 q248 = some (.inl (ac 0, 100, .inl (fun _ => 0))) := by rw [eP413, pm_n (pm_ne f407 f411 (by simp))]; exact f407
  have f428 : P413 q281 = some (.inl (ac 0, 100, .inl (fun _ => 0))) := by rw [eP413, pm_n (pm_ne f408 f411 (by simp))]; exact f408
  have f429 : P413 q316 = some (.inl (ac 0, 6, .inl (fun _ => 0))) := by rw [eP413, pm_n (pm_ne f409 f411 (by simp))]; exact f409
  have f430 : P413 q353 = some (.inl (ac 0, 6, .inl (fun _ => 0))) := by rw [eP413, pm_n (pm_ne f410 f411 (by simp))]; exact f410
  have f431 : P413 q392 = some (.inl (ac 0, 6, .inl (fun _ => 0))) := by rw [eP413, pm_n (pm_ne f412 f411 (by simp))]; exact f412
  have f432 : P413 h0 = some (.inr (6, [.int 0, .int 0, .ref q1, .ref q8, .ref q17, .ref q28, .ref q41, .ref q56, .ref q73, .ref q92, .ref q113, .ref q136, .int 0, .int 0, .ref q161, .ref q188, .ref q217, .ref q248, .ref q281, .int 0, .ref q316, .ref q353, .ref q392])) := by rw [eP413]; exact pm_s
  have frP413 : ∀ a : Nat, P a ≠ none → a ≠ h0 → P413 a = P a := fun a h g0 => by rw [eP413, pm_n g0]; exact (frP393 a h g0)
  refine lv_iconst (v := 0) hx hb dd_M_init_149 (by decide) ?_
  refine lv_istore_n (lv' := [(1, .int (0 : Int32)), (0, .ref h0)]) hx hb dd_M_init_150 rfl hl (by decide) rfl (fun ls hl => ?_)
  have lp : ∀ (n k : Nat), k + n = 20 → ∀ (lm : Nat → Int32) (Pk : pm_T) (H : Heap) (locs : List Loc) (ls : Array Slot), Pk = pm_up P413 q136 (.inl (ac 0, 20, .inl lm)) → (∀ j, j < k → lm j = 20000) → pm_W z D cl_w Pk s.heap H locs → lv_has ls 2 [(1, .int (nI k)), (0, .ref h0)] → W p l e ({ frames := 2, cells := 18, slots := 1498, locals := 60 } : Room) s m ([.ref h0] : List Value).toArray below meth c H locs 18 1498 (MQ below (cx_Q z D (fun v P' => v = none ∧ ∃ (ma : Nat → Nat) (mv : Nat → Nat → Int32), (∀ k, k < 18 → P (ma k) = none) ∧ (∀ k j, k < 18 → ¬ k = 9 → mv k j = 0) ∧ (∀ j, j < 20 → mv 9 j = 20000) ∧ md_W P' ac h0 ma mv 0 0 0 0 0 ∧ ∀ a : Nat, P a ≠ none → a ≠ h0 → P' a = P a)) ([.ref h0] : List Value).toArray s ({ frames := 2, cells := 18, slots := 1498, locals := 60 } : Room).cells ({ frames := 2, cells := 18, slots := 1498, locals := 60 } : Room).slots (pm_A z)) (F0 m 151 ls []) := by
    intro n
    induction n with
    | zero =>
      intro k hk lm Pk H locs ls ePk hlm hw hl
      have hk : k = 20 := by omega
      subst hk
      have kq1 : Pk q1 = some (.inl (ac 0, 40, .inl (fun _ => 0))) := by rw [ePk, pm_n ne_q1_q136]; exact f414
      have kq8 : Pk q8 = some (.inl (ac 0, 40, .inl (fun _ => 0))) := by rw [ePk, pm_n ne_q8_q136]; exact f415
      have kq17 : Pk q17 = some (.inl (ac 0, 40, .inl (fun _ => 0))) := by rw [ePk, pm_n ne_q17_q136]; exact f416
      have kq28 : Pk q28 = some (.inl (ac 0, 40, .inl (fun _ => 0))) := by rw [ePk, pm_n ne_q28_q136]; exact f417
      have kq41 : Pk q41 = some (.inl (ac 0, 40, .inl (fun _ => 0))) := by rw [ePk, pm_n ne_q41_q136]; exact f418
      have kq56 : Pk q56 = some (.inl (ac 0, 40, .inl (fun _ => 0))) := by rw [ePk, pm_n ne_q56_q136]; exact f419
      have kq73 : Pk q73 = some (.inl (ac 0, 120, .inl (fun _ => 0))) := by rw [ePk, pm_n ne_q73_q136]; exact f420
      have kq92 : Pk q92 = some (.inl (ac 0, 120, .inl (fun _ => 0))) := by rw [ePk, pm_n ne_q92_q136]; exact f421
      have kq113 : Pk q113 = some (.inl (ac 2, 480, .inl (fun _ => 0))) := by rw [ePk, pm_n ne_q113_q136]; exact f422
      have kq161 : Pk q161 = some (.inl (ac 0, 100, .inl (fun _ => 0))) := by rw [ePk, pm_n (Ne.symm ne_q136_q161)]; exact f424
      have kq188 : Pk q188 = some (.inl (ac 0, 100, .inl (fun _ => 0))) := by rw [ePk, pm_n (Ne.symm ne_q136_q188)]; exact f425
      have kq217 : Pk q217 = some (.inl (ac 0, 100, .inl (fun _ => 0))) := by rw [ePk, pm_n (Ne.symm ne_q136_q217)]; exact f426
      have kq248 : Pk q248 = some (.inl (ac 0, 100, .inl (fun _ => 0))) := by rw [ePk, pm_n (Ne.symm ne_q136_q248)]; exact f427
      have kq281 : Pk q281 = some (.inl (ac 0, 100, .inl (fun _ => 0))) := by rw [ePk, pm_n (Ne.symm ne_q136_q281)]; exact f428
      have kq316 : Pk q316 = some (.inl (ac 0, 6, .inl (fun _ => 0))) := by rw [ePk, pm_n (Ne.symm ne_q136_q316)]; exact f429
      have kq353 : Pk q353 = some (.inl (ac 0, 6, .inl (fun _ => 0))) := by rw [ePk, pm_n (Ne.symm ne_q136_q353)]; exact f430
      have kq392 : Pk q392 = some (.inl (ac 0, 6, .inl (fun _ => 0))) := by rw [ePk, pm_n (Ne.symm ne_q136_q392)]; exact f431
      have kh0 : Pk h0 = some (.inr (6, [.int 0, .int 0, .ref q1, .ref q8, .ref q17, .ref q28, .ref q41, .ref q56, .ref q73, .ref q92, .ref q113, .ref q136, .int 0, .int 0, .ref q161, .ref q188, .ref q217, .ref q248, .ref q281, .int 0, .ref q316, .ref q353, .ref q392])) := by rw [ePk, pm_n (pm_ne f432 f423 (by simp))]; exact f432
      have kq136 : Pk q136 = some (.inl (ac 0, 20, .inl lm)) := by rw [ePk]; exact pm_s
      refine lv_iload_n hx hb dd_M_init_151 rfl (lv_at hl 0 rfl) ?_
      refine lv_bipush (v := 20) hx hb dd_M_init_152 (by decide) ?_
      refine lv_icmp_ge (tgt := 172) hx hb dd_M_init_154 (by decide) (fun c433 => ?_) (fun c433 => absurd (nI_le (Nat.le_refl 20) (by decide)) c433)
      refine cx_vret hx hb hr hlocks hw dd_M_init_172 (by decide) (by decide) ?_
      have hnd : ([q1, q8, q17, q28, q41, q56, q73, q92, q113, q136, q161, q188, q217, q248, q281, q316, q353, q392] : List Nat).Nodup := by
        simp only [List.nodup_cons, List.mem_cons, List.not_mem_nil, or_false, not_or, not_false_eq_true, List.nodup_nil, and_true]
        exact ⟨⟨ne_q1_q8, ne_q1_q17, ne_q1_q28, ne_q1_q41, ne_q1_q56, ne_q1_q73, ne_q1_q92, ne_q1_q113, ne_q1_q136, ne_q1_q161, ne_q1_q188, ne_q1_q217, ne_q1_q248, ne_q1_q281, ne_q1_q316, ne_q1_q353, ne_q1_q392⟩, ⟨ne_q8_q17, ne_q8_q28, ne_q8_q41, ne_q8_q56, ne_q8_q73, ne_q8_q92, ne_q8_q113, ne_q8_q136, ne_q8_q161, ne_q8_q188, ne_q8_q217, ne_q8_q248, ne_q8_q281, ne_q8_q316, ne_q8_q353, ne_q8_q392⟩, ⟨ne_q17_q28, ne_q17_q41, ne_q17_q56, ne_q17_q73, ne_q17_q92, ne_q17_q113, ne_q17_q136, ne_q17_q161, ne_q17_q188, ne_q17_q217, ne_q17_q248, ne_q17_q281, ne_q17_q316, ne_q17_q353, ne_q17_q392⟩, ⟨ne_q28_q41, ne_q28_q56, ne_q28_q73, ne_q28_q92, ne_q28_q113, ne_q28_q136, ne_q28_q161, ne_q28_q188, ne_q28_q217, ne_q28_q248, ne_q28_q281, ne_q28_q316, ne_q28_q353, ne_q28_q392⟩, ⟨ne_q41_q56, ne_q41_q73, ne_q41_q92, ne_q41_q113, ne_q41_q136, ne_q41_q161, ne_q41_q188, ne_q41_q217, ne_q41_q248, ne_q41_q281, ne_q41_q316, ne_q41_q353, ne_q41_q392⟩, ⟨ne_q56_q73, ne_q56_q92, ne_q56_q113, ne_q56_q136, ne_q56_q161, ne_q56_q188, ne_q56_q217, ne_q56_q248, ne_q56_q281, ne_q56_q316, ne_q56_q353, ne_q56_q392⟩, ⟨ne_q73_q92, ne_q73_q113, ne_q73_q136, ne_q73_q161, ne_q73_q188, ne_q73_q217, ne_q73_q248, ne_q73_q281, ne_q73_q316, ne_q73_q353, ne_q73_q392⟩, ⟨ne_q92_q113, ne_q92_q136, ne_q92_q161, ne_q92_q188, ne_q92_q217, ne_q92_q248, ne_q92_q281, ne_q92_q316, ne_q92_q353, ne_q92_q392⟩, ⟨ne_q113_q136, ne_q113_q161, ne_q113_q188, ne_q113_q217, ne_q113_q248, ne_q113_q281, ne_q113_q316, ne_q113_q353, ne_q113_q392⟩, ⟨ne_q136_q161, ne_q136_q188, ne_q136_q217, ne_q136_q248, ne_q136_q281, ne_q136_q316, ne_q136_q353, ne_q136_q392⟩, ⟨ne_q161_q188, ne_q161_q217, ne_q161_q248, ne_q161_q281, ne_q161_q316, ne_q161_q353, ne_q161_q392⟩, ⟨ne_q188_q217, ne_q188_q248, ne_q188_q281, ne_q188_q316, ne_q188_q353, ne_q188_q392⟩, ⟨ne_q217_q248, ne_q217_q281, ne_q217_q316, ne_q217_q353, ne_q217_q392⟩, ⟨ne_q248_q281, ne_q248_q316, ne_q248_q353, ne_q248_q392⟩, ⟨ne_q281_q316, ne_q281_q353, ne_q281_q392⟩, ⟨ne_q316_q353, ne_q316_q392⟩, ne_q353_q392⟩
      refine ⟨rfl, fun k => ([q1, q8, q17, q28, q41, q56, q73, q92, q113, q136, q161, q188, q217, q248, q281, q316, q353, q392] : List Nat).getD k 0, fun k => if k = 9 then lm else fun _ => 0, md_18 no_q1 no_q8 no_q17 no_q28 no_q41 no_q56 no_q73 no_q92 no_q113 no_q136 no_q161 no_q188 no_q217 no_q248 no_q281 no_q316 no_q353 no_q392, fun k j _ h9 => by simp only [h9, if_false], fun j hj => by simp only [if_true]; exact hlm j hj, ⟨kh0, md_18 kq1 kq8 kq17 kq28 kq41 kq56 kq73 kq92 kq113 kq136 kq161 kq188 kq217 kq248 kq281 kq316 kq353 kq392, fun i j hi hj e => ?_⟩, fun a h g0 => ?_⟩
      · exact md_nd hnd rfl hi hj e
      · rw [ePk, pm_n (fun e8 => h (by rw [e8]; exact no_q136))]; exact frP413 a h g0
    | succ n ih =>
      intro k hk lm Pk H locs ls ePk hlm hw hl
      have hlt : k < 20 := by omega
      have hcl : (nI k).toNatClampNeg = k := nI_clamp (by omega)
      have kh0 : Pk h0 = some (.inr (6, [.int 0, .int 0, .ref q1, .ref q8, .ref q17, .ref q28, .ref q41, .ref q56, .ref q73, .ref q92, .ref q113, .ref q136, .int 0, .int 0, .ref q161, .ref q188, .ref q217, .ref q248, .ref q281, .int 0, .ref q316, .ref q353, .ref q392])) := by rw [ePk, pm_n (pm_ne f432 f423 (by simp))]; exact f432
      have kq136 : Pk q136 = some (.inl (ac 0, 20, .inl lm)) := by rw [ePk]; exact pm_s
      refine lv_iload_n hx hb dd_M_init_151 rfl (lv_at hl 0 rfl) ?_
      refine lv_bipush (v := 20) hx hb dd_M_init_152 (by decide) ?_
      refine lv_icmp_ge (tgt := 172) hx hb dd_M_init_154 (by decide) (fun c434 => absurd c434 (nI_ge hlt (by decide))) (fun c434 => ?_)
      refine lv_aload_n hx hb dd_M_init_157 rfl (lv_at hl 1 rfl) ?_
      refine pm_get (ci := 6) (C := cn_M) (T := cf_M) (N := 23) (v := .ref q136) hx hb hg gu_M hown hK.2.1 hw kh0 rfl 11 (by decide) (hg _ gf_M_38) (fun _ h9 => h9) rfl dd_M_init_158 ?_
      refine lv_iload_n hx hb dd_M_init_161 rfl (lv_at hl 0 rfl) ?_
      refine lv_sipush (v := 20000) hx hb dd_M_init_162 (by decide) ?_
      refine pm_iast (x := (20000 : Int32)) hx hb hK.2.1 hw 0 kq136 rfl (vp_in_nI hlt (by decide)) dd_M_init_165 (fun H locs hw => ?_)
      have hw : pm_W z D cl_w (pm_up Pk q136 (.inl (ac 0, 20, .inl (upd lm ((nI k).toNatClampNeg) (20000 : Int32))))) s.heap H _ := hw
      obtain ⟨P435, eP435⟩ : ∃ pmv : pm_T, pmv = pm_up Pk q136 (.inl (ac 0, 20, .inl (upd lm ((nI k).toNatClampNeg) (20000 : Int32)))) := ⟨_, rfl⟩
      rw [← eP435] at hw
      have f436 : P435 h0 = some (.inr (6, [.int 0, .int 0, .ref q1, .ref q8, .ref q17, .ref q28, .ref q41, .ref q56, .ref q73, .ref q92, .ref q113, .ref q136, .int 0, .int 0, .ref q161, .ref q188, .ref q217, .ref q248, .ref q281, .int 0, .ref q316, .ref q353, .ref q392])) := by rw [eP435, pm_n (pm_ne kh0 kq136 (by simp))]; exact kh0
      have f437 : P435 q136 = some (.inl (ac 0, 20, .inl (upd lm ((nI k).toNatClampNeg) (20000 : Int32)))) := by rw [eP435]; exact pm_s
      obtain ⟨x438, ex438⟩ : ∃ y : Int32, y = (nI k) + 1 := ⟨_, rfl⟩
      refine lv_iinc (v := x438) (lv' := [(1, .int x438), (0, .ref h0)]) hx hb dd_M_init_166 hl (k := 0) rfl (by rw [ex438]; rfl) (by decide) rfl (fun ls hl => ?_)
      refine lv_goto (tgt := 151) hx hb dd_M_init_169 (by decide) ?_
      have hi : x438 = nI (k + 1) := by rw [ex438]; exact nI_1 k
      rw [hi] at hl
      refine ih (k + 1) (by omega) (upd lm k 20000) P435 H _ ls (by rw [eP435, ePk, pm_uu, hcl]) (fun j hj => ?_) hw (lv_sub hl [0, 1] rfl)
      by_cases hjk : j = k
      · rw [hjk, pk_us]
      · rw [pk_un hjk]; exact hlm j (by omega)
  exact lp 20 0 (by decide) (fun _ => 0) P413 _ _ ls (pm_id f423).symm (fun j hj => absurd hj (Nat.not_lt_zero j)) hw (lv_sub hl [0, 1] rfl)

def su_mst (mv : Nat → Nat → Int32) (tr : Nat → Nat) : Nat → Int32 × Int32 × Int32
  | 0 => (0, 0, 0)
  | i + 1 => ((su_mst mv tr i).1 + su_mh mv (su_mst mv tr i).2.1 (su_mst mv tr i).2.2 (tr i), mv 0 (tr i), mv 1 (tr i))
def su_met (mv : Nat → Nat → Int32) (tr : Nat → Nat) (c : Nat) : Int32 := (su_mst mv tr c).1 + su_sz (su_mst mv tr c).2.1 + su_sz (su_mst mv tr c).2.2
def su_ahf (f g : Nat → Int32) : Nat → Nat → Int32
  | 0, _ => 0
  | r + 1, i => if f i = g i then su_ahf f g r (i + 1) else if g i ≤ f i then 0 else 1

set_option maxHeartbeats 4000000 in
set_option maxRecDepth 100000 in
theorem c_M_metres (l : Launch) (z : Nat) (D : va_G) (ac : Nat → ClassId) (sa : Nat → Nat) (P : pm_T) (h0 : Nat) (ma : Nat → Nat) (mv : Nat → Nat → Int32) (th al so : Int32) (n t : Nat) (hn40 : n ≤ 40) (ht100 : t ≤ 100) (c9 : Nat) (hc9 : c9 ≤ 6) (tr : Nat → Nat) (htr : ∀ i, i < c9 → tr i < 40 ∧ mv 16 i = nI (tr i)) (mw : md_W P ac h0 ma mv th (nI n) al (nI t) so)  : cx_M l yy_M_metres bb_M_metres 6 (some .int) ({ frames := 2, cells := 0, slots := 0, locals := 60 } : Room) z D ac sa P [.ref h0, .int (nI c9)] (fun v P' => v = some (.int (su_met mv tr c9)) ∧ P' = P) := by
  refine cx_ofM (by decide) (Nat.le_of_ble_eq_true rfl) (fun p e s m below meth c ls hx hb hr hml hg hown hlocks hin hK hw hl => ?_)
  have hl : lv_has ls 6 [(0, .ref h0), (1, .int (nI c9))] := hl
  have hown : s.vm.findClass cn_M = some m.cls := hown
  have lp : ∀ (n9 k : Nat), k + n9 = c9 → ∀ (s2 a3 b4 : Int32) (H : Heap) (locs : List Loc) (ls : Array Slot), s2 = (su_mst mv tr k).1 → a3 = (su_mst mv tr k).2.1 → b4 = (su_mst mv tr k).2.2 → pm_W z D cl_w P s.heap H locs → lv_has ls 6 [(5, .int (nI k)), (2, .int s2), (3, .int a3), (4, .int b4), (0, .ref h0), (1, .int (nI c9))] → W p l e ({ frames := 2, cells := 0, slots := 0, locals := 60 } : Room) s m ([.ref h0, .int (nI c9)] : List Value).toArray below meth c H locs 0 0 (MQ below (cx_Q z D (fun v P' => v = some (.int (su_met mv tr c9)) ∧ P' = P)) ([.ref h0, .int (nI c9)] : List Value).toArray s ({ frames := 2, cells := 0, slots := 0, locals := 60 } : Room).cells ({ frames := 2, cells := 0, slots := 0, locals := 60 } : Room).slots (pm_A z)) (F0 m 10 ls []) := by
    intro n9
    induction n9 with
    | zero =>
      intro k hk s2 a3 b4 H locs ls e2 e3 e4 hw hl
      have hk : k = c9 := by omega
      rw [hk] at e2 e3 e4
      refine lv_iload hx hb dd_M_metres_10 (lv_at hl 0 rfl) ?_
      refine lv_iload_n hx hb dd_M_metres_12 rfl (lv_at hl 5 rfl) ?_
      refine lv_icmp_ge (tgt := 66) hx hb dd_M_metres_13 (by decide) (fun c31 => ?_) (fun c31 => absurd (by rw [hk]; exact Int32.le_refl _) c31)
      refine lv_iload_n hx hb dd_M_metres_66 rfl (lv_at hl 1 rfl) ?_
      refine lv_iload_n hx hb dd_M_metres_67 rfl (lv_at hl 2 rfl) ?_
      refine cx_after (cx_rS (n := 1) (As := [.int a3]) (rest := [.int s2]) ⟨hx, hb, hml, hown, hg⟩ (c_M_size l z D ac sa P a3) (cx_gs gm_M_124 gt_M_size gn_M gc_M_size) (by decide +kernel) ⟨by decide, by decide⟩ hK hw rfl hl.1 rfl (Nat.le_of_ble_eq_true rfl) dd_M_metres_68 ⟨by decide, by decide⟩) hw (fun v9 P9 H locs hp hw => ?_)
      obtain ⟨rfl, e9⟩ := hp
      rw [e9] at hw
      clear e9 P9
      refine W.eq (g2 := F0 m 71 ls [.int (su_sz a3), .int s2]) rfl ?_
      refine lv_iadd hx hb dd_M_metres_71 ?_
      refine lv_iload hx hb dd_M_metres_72 (lv_at hl 3 rfl) ?_
      refine cx_after (cx_rS (n := 1) (As := [.int b4]) (rest := [.int (s2 + (su_sz a3))]) ⟨hx, hb, hml, hown, hg⟩ (c_M_size l z D ac sa P b4) (cx_gs gm_M_124 gt_M_size gn_M gc_M_size) (by decide +kernel) ⟨by decide, by decide⟩ hK hw rfl hl.1 rfl (Nat.le_of_ble_eq_true rfl) dd_M_metres_74 ⟨by decide, by decide⟩) hw (fun v9 P9 H locs hp hw => ?_)
      obtain ⟨rfl, e9⟩ := hp
      rw [e9] at hw
      clear e9 P9
      refine W.eq (g2 := F0 m 77 ls [.int (su_sz b4), .int (s2 + (su_sz a3))]) rfl ?_
      refine lv_iadd hx hb dd_M_metres_77 ?_
      refine cx_iret (v := ((s2 + (su_sz a3)) + (su_sz b4))) hx hb hr rfl hlocks hw dd_M_metres_78 (by decide) (by decide) ?_
      exact ⟨by rw [su_met, e2, e3, e4], rfl⟩
    | succ n9 ih =>
      intro k hk s2 a3 b4 H locs ls e2 e3 e4 hw hl
      have hlt : k < c9 := by omega
      have htk := (htr k hlt).1
      refine lv_iload hx hb dd_M_metres_10 (lv_at hl 0 rfl) ?_
      refine lv_iload_n hx hb dd_M_metres_12 rfl (lv_at hl 5 rfl) ?_
      refine lv_icmp_ge (tgt := 66) hx hb dd_M_metres_13 (by decide) (fun c32 => absurd c32 (nI_ge hlt (by omega))) (fun c32 => ?_)
      refine lv_iload_n hx hb dd_M_metres_16 rfl (lv_at hl 1 rfl) ?_
      refine lv_aload_n hx hb dd_M_metres_17 rfl (lv_at hl 4 rfl) ?_
      refine lv_iload_n hx hb dd_M_metres_18 rfl (lv_at hl 2 rfl) ?_
      refine lv_iload hx hb dd_M_metres_19 (lv_at hl 3 rfl) ?_
      refine lv_aload_n hx hb dd_M_metres_21 rfl (lv_at hl 4 rfl) ?_
      refine pm_get (ci := 6) (C := cn_M) (T := cf_M) (N := 23) (v := .ref (ma 16)) hx hb hg gu_M hown hK.2.1 hw mw.1 rfl 21 (by decide) (hg _ gf_M_59) (fun _ h9 => h9) rfl dd_M_metres_22 ?_
      refine lv_iload hx hb dd_M_metres_25 (lv_at hl 0 rfl) ?_
      refine pm_iald hx hb hK.2.1 hw 0 (show P (ma 16) = some (.inl (ac 0, 6, .inl (mv 16))) from mw.2.1 16 (by decide)) rfl (vp_in_nI (by omega) (by decide)) dd_M_metres_27 ?_
      refine W.eq (g2 := F0 m 28 ls [.int (mv 16 k), .int b4, .int a3, .ref h0, .int s2]) (by rw [show ((mv 16) ((nI k).toNatClampNeg)) = (mv 16 k) from by rw [nI_clamp (by omega)]]) ?_
      refine W.eq (g2 := F0 m 28 ls [.int (nI (tr k)), .int b4, .int a3, .ref h0, .int s2]) (by rw [show (mv 16 k) = (nI (tr k)) from (htr k hlt).2]) ?_
      refine cx_after (cx_rV (n := 3) (As := [.int a3, .int b4, .int (nI (tr k))]) (rest := [.int s2]) ⟨hx, hb, hml, hown, hg⟩ (c_M_hose l z D ac sa P h0 ma mv th (nI n) al (nI t) so a3 b4 (tr k) (by omega) mw) (cx_gv gm_M_127 gi_M_hose gs_M_hose gn_M gc_M_hose) (by decide +kernel) ⟨by decide, by decide⟩ hK hw mw.1 rfl rfl hl.1 rfl (Nat.le_of_ble_eq_true rfl) dd_M_metres_28 ⟨by decide, by decide⟩) hw (fun v9 P9 H locs hp hw => ?_)
      obtain ⟨rfl, e9⟩ := hp
      rw [e9] at hw
      clear e9 P9
      refine W.eq (g2 := F0 m 31 ls [.int (su_mh mv a3 b4 (tr k)), .int s2]) rfl ?_
      refine lv_iadd hx hb dd_M_metres_31 ?_
      refine lv_topi (fun x33 ex33 => ?_)
      refine lv_istore_n (lv' := [(2, .int x33), (5, .int (nI k)), (3, .int a3), (4, .int b4), (0, .ref h0), (1, .int (nI c9))]) hx hb dd_M_metres_32 rfl hl (by decide) rfl (fun ls hl => ?_)
      refine lv_aload_n hx hb dd_M_metres_33 rfl (lv_at hl 4 rfl) ?_
      refine pm_get (ci := 6) (C := cn_M) (T := cf_M) (N := 23) (v := .ref (ma 0)) hx hb hg gu_M hown hK.2.1 hw mw.1 rfl 2 (by decide) (hg _ gf_M_7) (fun _ h9 => h9) rfl dd_M_metres_34 ?_
      refine lv_aload_n hx hb dd_M_metres_37 rfl (lv_at hl 4 rfl) ?_
      refine pm_get (ci := 6) (C := cn_M) (T := cf_M) (N := 23) (v := .ref (ma 16)) hx hb hg gu_M hown hK.2.1 hw mw.1 rfl 21 (by decide) (hg _ gf_M_59) (fun _ h9 => h9) rfl dd_M_metres_38 ?_
      refine lv_iload hx hb dd_M_metres_41 (lv_at hl 1 rfl) ?_
      refine pm_iald hx hb hK.2.1 hw 0 (show P (ma 16) = some (.inl (ac 0, 6, .inl (mv 16))) from mw.2.1 16 (by decide)) rfl (vp_in_nI (by omega) (by decide)) dd_M_metres_43 ?_
      refine W.eq (g2 := F0 m 44 ls [.int (mv 16 k), .ref (ma 0)]) (by rw [show ((mv 16) ((nI k).toNatClampNeg)) = (mv 16 k) from by rw [nI_clamp (by omega)]]) ?_
      refine W.eq (g2 := F0 m 44 ls [.int (nI (tr k)), .ref (ma 0)]) (by rw [show (mv 16 k) = (nI (tr k)) from (htr k hlt).2]) ?_
      refine pm_iald hx hb hK.2.1 hw 0 (show P (ma 0) = some (.inl (ac 0, 40, .inl (mv 0))) from mw.2.1 0 (by decide)) rfl (vp_in_nI (by omega) (by decide)) dd_M_metres_44 ?_
      refine W.eq (g2 := F0 m 45 ls [.int (mv 0 (tr k))]) (by rw [show ((mv 0) ((nI (tr k)).toNatClampNeg)) = (mv 0 (tr k)) from by rw [nI_clamp (by omega)]]) ?_
      refine lv_topi (fun x34 ex34 => ?_)
      refine lv_istore_n (lv' := [(3, .int x34), (2, .int x33), (5, .int (nI k)), (4, .int b4), (0, .ref h0), (1, .int (nI c9))]) hx hb dd_M_metres_45 rfl hl (by decide) rfl (fun ls hl => ?_)
      refine lv_aload_n hx hb dd_M_metres_46 rfl (lv_at hl 4 rfl) ?_
      refine pm_get (ci := 6) (C := cn_M) (T := cf_M) (N := 23) (v := .ref (ma 1)) hx hb hg gu_M hown hK.2.1 hw mw.1 rfl 3 (by decide) (hg _ gf_M_13) (fun _ h9 => h9) rfl dd_M_metres_47 ?_
      refine lv_aload_n hx hb dd_M_metres_50 rfl (lv_at hl 4 rfl) ?_
      refine pm_get (ci := 6) (C := cn_M) (T := cf_M) (N := 23) (v := .ref (ma 16)) hx hb hg gu_M hown hK.2.1 hw mw.1 rfl 21 (by decide) (hg _ gf_M_59) (fun _ h9 => h9) rfl dd_M_metres_51 ?_
      refine lv_iload hx hb dd_M_metres_54 (lv_at hl 2 rfl) ?_
      refine pm_iald hx hb hK.2.1 hw 0 (show P (ma 16) = some (.inl (ac 0, 6, .inl (mv 16))) from mw.2.1 16 (by decide)) rfl (vp_in_nI (by omega) (by decide)) dd_M_metres_56 ?_
      refine W.eq (g2 := F0 m 57 ls [.int (mv 16 k), .ref (ma 1)]) (by rw [show ((mv 16) ((nI k).toNatClampNeg)) = (mv 16 k) from by rw [nI_clamp (by omega)]]) ?_
      refine W.eq (g2 := F0 m 57 ls [.int (nI (tr k)), .ref (ma 1)]) (by rw [show (mv 16 k) = (nI (tr k)) from (htr k hlt).2]) ?_
      refine pm_iald hx hb hK.2.1 hw 0 (show P (ma 1) = some (.inl (ac 0, 40, .inl (mv 1))) from mw.2.1 1 (by decide)) rfl (vp_in_nI (by omega) (by decide)) dd_M_metres_57 ?_
      refine W.eq (g2 := F0 m 58 ls [.int (mv 1 (tr k))]) (by rw [show ((mv 1) ((nI (tr k)).toNatClampNeg)) = (mv 1 (tr k)) from by rw [nI_clamp (by omega)]]) ?_
      refine lv_topi (fun x35 ex35 => ?_)
      refine lv_istore (lv' := [(4, .int x35), (3, .int x34), (2, .int x33), (5, .int (nI k)), (0, .ref h0), (1, .int (nI c9))]) hx hb dd_M_metres_58 hl (by decide) rfl (fun ls hl => ?_)
      obtain ⟨x36, ex36⟩ : ∃ y : Int32, y = (nI k) + 1 := ⟨_, rfl⟩
      refine lv_iinc (v := x36) (lv' := [(5, .int x36), (4, .int x35), (3, .int x34), (2, .int x33), (0, .ref h0), (1, .int (nI c9))]) hx hb dd_M_metres_60 hl (k := 3) rfl (by rw [ex36]; rfl) (by decide) rfl (fun ls hl => ?_)
      refine lv_goto (tgt := 10) hx hb dd_M_metres_63 (by decide) ?_
      have hi7 : x36 = nI (k + 1) := by rw [ex36]; exact nI_1 k
      rw [hi7] at hl
      exact ih (k + 1) (by omega) x33 x34 x35 H _ ls (by rw [ex33, e2, e3, e4]; rfl) (by rw [ex34]; rfl) (by rw [ex35]; rfl) hw (lv_sub hl [0, 3, 2, 1, 4, 5] rfl)
  refine lv_iconst (v := 0) hx hb dd_M_metres_0 (by decide) ?_
  refine lv_istore_n (lv' := [(2, .int (0 : Int32)), (0, .ref h0), (1, .int (nI c9))]) hx hb dd_M_metres_1 rfl hl (by decide) rfl (fun ls hl => ?_)
  refine lv_iconst (v := 0) hx hb dd_M_metres_2 (by decide) ?_
  refine lv_istore_n (lv' := [(3, .int (0 : Int32)), (2, .int (0 : Int32)), (0, .ref h0), (1, .int (nI c9))]) hx hb dd_M_metres_3 rfl hl (by decide) rfl (fun ls hl => ?_)
  refine lv_iconst (v := 0) hx hb dd_M_metres_4 (by decide) ?_
  refine lv_istore (lv' := [(4, .int (0 : Int32)), (3, .int (0 : Int32)), (2, .int (0 : Int32)), (0, .ref h0), (1, .int (nI c9))]) hx hb dd_M_metres_5 hl (by decide) rfl (fun ls hl => ?_)
  refine lv_iconst (v := 0) hx hb dd_M_metres_7 (by decide) ?_
  refine lv_istore (lv' := [(5, .int (0 : Int32)), (4, .int (0 : Int32)), (3, .int (0 : Int32)), (2, .int (0 : Int32)), (0, .ref h0), (1, .int (nI c9))]) hx hb dd_M_metres_8 hl (by decide) rfl (fun ls hl => ?_)
  exact lp c9 0 (Nat.zero_add c9) 0 0 0 _ _ ls rfl rfl rfl hw (lv_sub hl [0, 3, 2, 1, 4, 5] rfl)

set_option maxHeartbeats 4000000 in
set_option maxRecDepth 100000 in
theorem c_M_isAhead (l : Launch) (z : Nat) (D : va_G) (ac : Nat → ClassId) (sa : Nat → Nat) (P : pm_T) (h0 : Nat) (ma : Nat → Nat) (mv : Nat → Nat → Int32) (th al so : Int32) (n t : Nat) (hn40 : n ≤ 40) (ht100 : t ≤ 100) (c9 : Nat) (hc9 : c9 ≤ 6) (mw : md_W P ac h0 ma mv th (nI n) al (nI t) so)  : cx_M l yy_M_isAhead bb_M_isAhead 3 (some .boolean) ({ frames := 0, cells := 0, slots := 0, locals := 0 } : Room) z D ac sa P [.ref h0, .int (nI c9)] (fun v P' => v = some (.int (su_ahf (mv 16) (mv 17) c9 0)) ∧ P' = P) := by
  refine cx_ofM (by decide) (Nat.le_of_ble_eq_true rfl) (fun p e s m below meth c ls hx hb hr hml hg hown hlocks hin hK hw hl => ?_)
  have hl : lv_has ls 3 [(0, .ref h0), (1, .int (nI c9))] := hl
  have hown : s.vm.findClass cn_M = some m.cls := hown
  have lp : ∀ (n9 k : Nat), k + n9 = c9 → ∀ (H : Heap) (locs : List Loc) (ls : Array Slot), su_ahf (mv 16) (mv 17) n9 k = su_ahf (mv 16) (mv 17) c9 0 → pm_W z D cl_w P s.heap H locs → lv_has ls 3 [(2, .int (nI k)), (0, .ref h0), (1, .int (nI c9))] → W p l e ({ frames := 0, cells := 0, slots := 0, locals := 0 } : Room) s m ([.ref h0, .int (nI c9)] : List Value).toArray below meth c H locs 0 0 (MQ below (cx_Q z D (fun v P' => v = some (.int (su_ahf (mv 16) (mv 17) c9 0)) ∧ P' = P)) ([.ref h0, .int (nI c9)] : List Value).toArray s ({ frames := 0, cells := 0, slots := 0, locals := 0 } : Room).cells ({ frames := 0, cells := 0, slots := 0, locals := 0 } : Room).slots (pm_A z)) (F0 m 2 ls []) := by
    intro n9
    induction n9 with
    | zero =>
      intro k hk H locs ls ea hw hl
      have hk : k = c9 := by omega
      refine lv_iload_n hx hb dd_M_isAhead_2 rfl (lv_at hl 0 rfl) ?_
      refine lv_iload_n hx hb dd_M_isAhead_3 rfl (lv_at hl 2 rfl) ?_
      refine lv_icmp_ge (tgt := 49) hx hb dd_M_isAhead_4 (by decide) (fun c31 => ?_) (fun c31 => absurd (by rw [hk]; exact Int32.le_refl _) c31)
      refine lv_iconst (v := 0) hx hb dd_M_isAhead_49 (by decide) ?_
      refine cx_iret (v := (0 : Int32)) hx hb hr (by decide) hlocks hw dd_M_isAhead_50 (by decide) (by decide) ?_
      exact ⟨by rw [← ea]; rfl, rfl⟩
    | succ n9 ih =>
      intro k hk H locs ls ea hw hl
      have hlt : k < c9 := by omega
      refine lv_iload_n hx hb dd_M_isAhead_2 rfl (lv_at hl 0 rfl) ?_
      refine lv_iload_n hx hb dd_M_isAhead_3 rfl (lv_at hl 2 rfl) ?_
      refine lv_icmp_ge (tgt := 49) hx hb dd_M_isAhead_4 (by decide) (fun c32 => absurd c32 (nI_ge hlt (by omega))) (fun c32 => ?_)
      refine lv_aload_n hx hb dd_M_isAhead_7 rfl (lv_at hl 1 rfl) ?_
      refine pm_get (ci := 6) (C := cn_M) (T := cf_M) (N := 23) (v := .ref (ma 16)) hx hb hg gu_M hown hK.2.1 hw mw.1 rfl 21 (by decide) (hg _ gf_M_59) (fun _ h9 => h9) rfl dd_M_isAhead_8 ?_
      refine lv_iload_n hx hb dd_M_isAhead_11 rfl (lv_at hl 0 rfl) ?_
      refine pm_iald hx hb hK.2.1 hw 0 (show P (ma 16) = some (.inl (ac 0, 6, .inl (mv 16))) from mw.2.1 16 (by decide)) rfl (vp_in_nI (by omega) (by decide)) dd_M_isAhead_12 ?_
      refine W.eq (g2 := F0 m 13 ls [.int (mv 16 k)]) (by rw [show ((mv 16) ((nI k).toNatClampNeg)) = (mv 16 k) from by rw [nI_clamp (by omega)]]) ?_
      refine lv_aload_n hx hb dd_M_isAhead_13 rfl (lv_at hl 1 rfl) ?_
      refine pm_get (ci := 6) (C := cn_M) (T := cf_M) (N := 23) (v := .ref (ma 17)) hx hb hg gu_M hown hK.2.1 hw mw.1 rfl 22 (by decide) (hg _ gf_M_62) (fun _ h9 => h9) rfl dd_M_isAhead_14 ?_
      refine lv_iload_n hx hb dd_M_isAhead_17 rfl (lv_at hl 0 rfl) ?_
      refine pm_iald hx hb hK.2.1 hw 0 (show P (ma 17) = some (.inl (ac 0, 6, .inl (mv 17))) from mw.2.1 17 (by decide)) rfl (vp_in_nI (by omega) (by decide)) dd_M_isAhead_18 ?_
      refine W.eq (g2 := F0 m 19 ls [.int (mv 17 k), .int (mv 16 k)]) (by rw [show ((mv 17) ((nI k).toNatClampNeg)) = (mv 17 k) from by rw [nI_clamp (by omega)]]) ?_
      refine lv_icmp_eq (tgt := 43) hx hb dd_M_isAhead_19 (by decide) (fun c33 => ?_) (fun c33 => ?_)
      · skip
        obtain ⟨x34, ex34⟩ : ∃ y : Int32, y = (nI k) + 1 := ⟨_, rfl⟩
        refine lv_iinc (v := x34) (lv' := [(2, .int x34), (0, .ref h0), (1, .int (nI c9))]) hx hb dd_M_isAhead_43 hl (k := 0) rfl (by rw [ex34]; rfl) (by decide) rfl (fun ls hl => ?_)
        refine lv_goto (tgt := 2) hx hb dd_M_isAhead_46 (by decide) ?_
        have hi7 : x34 = nI (k + 1) := by rw [ex34]; exact nI_1 k
        rw [hi7] at hl
        exact ih (k + 1) (by omega) H _ ls (by rw [← ea]; simp only [su_ahf, if_pos c33]) hw (lv_sub hl [0, 1, 2] rfl)
      · skip
        refine lv_aload_n hx hb dd_M_isAhead_22 rfl (lv_at hl 1 rfl) ?_
        refine pm_get (ci := 6) (C := cn_M) (T := cf_M) (N := 23) (v := .ref (ma 16)) hx hb hg gu_M hown hK.2.1 hw mw.1 rfl 21 (by decide) (hg _ gf_M_59) (fun _ h9 => h9) rfl dd_M_isAhead_23 ?_
        refine lv_iload_n hx hb dd_M_isAhead_26 rfl (lv_at hl 0 rfl) ?_
        refine pm_iald hx hb hK.2.1 hw 0 (show P (ma 16) = some (.inl (ac 0, 6, .inl (mv 16))) from mw.2.1 16 (by decide)) rfl (vp_in_nI (by omega) (by decide)) dd_M_isAhead_27 ?_
        refine W.eq (g2 := F0 m 28 ls [.int (mv 16 k)]) (by rw [show ((mv 16) ((nI k).toNatClampNeg)) = (mv 16 k) from by rw [nI_clamp (by omega)]]) ?_
        refine lv_aload_n hx hb dd_M_isAhead_28 rfl (lv_at hl 1 rfl) ?_
        refine pm_get (ci := 6) (C := cn_M) (T := cf_M) (N := 23) (v := .ref (ma 17)) hx hb hg gu_M hown hK.2.1 hw mw.1 rfl 22 (by decide) (hg _ gf_M_62) (fun _ h9 => h9) rfl dd_M_isAhead_29 ?_
        refine lv_iload_n hx hb dd_M_isAhead_32 rfl (lv_at hl 0 rfl) ?_
        refine pm_iald hx hb hK.2.1 hw 0 (show P (ma 17) = some (.inl (ac 0, 6, .inl (mv 17))) from mw.2.1 17 (by decide)) rfl (vp_in_nI (by omega) (by decide)) dd_M_isAhead_33 ?_
        refine W.eq (g2 := F0 m 34 ls [.int (mv 17 k), .int (mv 16 k)]) (by rw [show ((mv 17) ((nI k).toNatClampNeg)) = (mv 17 k) from by rw [nI_clamp (by omega)]]) ?_
        refine lv_icmp_ge (tgt := 41) hx hb dd_M_isAhead_34 (by decide) (fun c35 => ?_) (fun c35 => ?_)
        · skip
          refine lv_iconst (v := 0) hx hb dd_M_isAhead_41 (by decide) ?_
          refine cx_iret (v := (0 : Int32)) hx hb hr (by decide) hlocks hw dd_M_isAhead_42 (by decide) (by decide) ?_
          exact ⟨by rw [← ea]; simp only [su_ahf, if_neg c33, if_pos c35], rfl⟩
        · skip
          refine lv_iconst (v := 1) hx hb dd_M_isAhead_37 (by decide) ?_
          refine lv_goto (tgt := 42) hx hb dd_M_isAhead_38 (by decide) ?_
          refine cx_iret (v := (1 : Int32)) hx hb hr (by decide) hlocks hw dd_M_isAhead_42 (by decide) (by decide) ?_
          exact ⟨by rw [← ea]; simp only [su_ahf, if_neg c33, if_neg c35], rfl⟩
  refine lv_iconst (v := 0) hx hb dd_M_isAhead_0 (by decide) ?_
  refine lv_istore_n (lv' := [(2, .int (0 : Int32)), (0, .ref h0), (1, .int (nI c9))]) hx hb dd_M_isAhead_1 rfl hl (by decide) rfl (fun ls hl => ?_)
  exact lp c9 0 (Nat.zero_add c9) _ _ ls rfl hw (lv_sub hl [0, 1, 2] rfl)
