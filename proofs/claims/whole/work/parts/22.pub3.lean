set_option maxHeartbeats 4000000 in
set_option maxRecDepth 100000 in
theorem c_C_hydrant (l : Launch) (hT : l.stackTraces = false) (z : Nat) (D : va_G) (ac : Nat → ClassId) (sa : Nat → Nat) (P : pm_T) (h0 aH aT aL aK aW : Nat) (nh nt al : Int32) (fH : Nat → Option Nat) (lm : Nat → Int32) (p1 p2 p3 p4 : Int32) (f0 : P h0 = some (.inr (0, [.ref aH, .ref aT, .ref aL, .ref aK, .ref aW, .int nh, .int nt, .int al]))) (f1 : P aH = some (.inl (ac 3, 40, .inr (.inr (.inr (.inr fH)))))) (f2 : P aL = some (.inl (ac 0, 20, .inl lm))) : cx_V l yy_C_hydrant bb_C_hydrant 6 (some .int) ({ frames := 7, cells := 5, slots := 35, locals := 140 } : Room) z D ac sa P [.ref h0, .int p1, .int p2, .int p3, .int p4] (fun v P' => su_al [(su_main p3, xn_IAE), (¬ p4 < 0 ∧ p4 < 3, xn_IAE), (su_pl p1 p2, xn_IOB), (¬ nh < 0 ∧ nh < 40, xn_UOE)] ∧ v = some (.int nh) ∧ ∃ q qa, (P q = none ∧ P qa = none) ∧ P' q = some (.inr (1, [.int nh, .int p1, .int p2, .int p3, .int p4, .ref qa, .int 0, .int 0, .int 0, .int 0, .null])) ∧ P' qa = some (.inl (ac 5, 3, .inr (.inr (.inr (.inr (fun _ => none)))))) ∧ P' aH = some (.inl (ac 3, 40, .inr (.inr (.inr (.inr (va_up fH nh.toNatClampNeg (some q))))))) ∧ P' h0 = some (.inr (0, [.ref aH, .ref aT, .ref aL, .ref aK, .ref aW, .int (nh + 1), .int nt, .int al])) ∧ ∀ a : Nat, P a ≠ none → a ≠ h0 → a ≠ aH → P' a = P a) (fun E P' => P' = P ∧ su_xs [(su_main p3, xn_IAE), (¬ p4 < 0 ∧ p4 < 3, xn_IAE), (su_pl p1 p2, xn_IOB), (¬ nh < 0 ∧ nh < 40, xn_UOE)] E) := by
  refine cx_ofV (by decide) (Nat.le_of_ble_eq_true rfl) (fun p e s m below meth c ls hx hb hr hml hg hown hlocks hout hK hw hl => ?_)
  have hl : lv_has ls 6 [(0, .ref h0), (1, .int p1), (2, .int p2), (3, .int p3), (4, .int p4)] := hl
  have hown : s.vm.findClass cn_C = some m.cls := hown
  refine lv_aload_n hx hb dd_C_hydrant_0 rfl (lv_at hl 0 rfl) ?_
  refine lv_iload_n hx hb dd_C_hydrant_1 rfl (lv_at hl 3 rfl) ?_
  refine cx_afterX (cx_rVX (n := 1) (As := [.int p3]) (rest := []) ⟨hx, hb, hml, hown, hg⟩ (c_C_needMain l hT z D ac sa P h0 aH aT aL aK aW nh nt al lm p3 f0 f2) (cx_gv gm_C_50 gi_C_needMain gs_C_needMain gn_C gc_C_needMain) (by decide +kernel) ⟨by decide, by decide⟩ hK hw f0 rfl rfl hl.1 rfl (Nat.le_of_ble_eq_true rfl) dd_C_hydrant_2 ⟨by decide, by decide⟩) hw (fun E9 ce9 q9 P9 H locs hp hw hce hcv hcl => ?_) (fun v9 P9 H locs hp hw => ?_)
  · skip
    obtain ⟨rfl, e9, n1⟩ := hp
    rw [e9] at hw
    clear e9 P9
    refine cx_pass hout hlocks hce hcv hcl hw ?_ (by decide) (by decide)
    exact ⟨rfl, Or.inl ⟨n1, rfl⟩⟩
  · skip
    obtain ⟨rfl, e9, n2⟩ := hp
    rw [e9] at hw
    clear e9 P9
    refine W.eq (g2 := F0 m 5 ls []) rfl ?_
    refine lv_iload hx hb dd_C_hydrant_5 (lv_at hl 4 rfl) ?_
    refine lv_if_lt (tgt := 16) hx hb dd_C_hydrant_7 (by decide) (fun c3 => ?_) (fun c3 => ?_)
    · skip
      refine cx_thrS (E := xn_IAE) (text := "no such kind") hx hb hT (by rw [hml]; exact hl.1.symm) hown hg hK hw (by decide +kernel) gk_C_54 gn_IllegalArgumentException xg_IAE xb_IAE xo_IAE (by decide +kernel) dd_C_hydrant_16 dd_C_hydrant_19 dd_C_hydrant_20 dd_C_hydrant_22 dd_C_hydrant_25 hout ⟨by decide, Nat.le_of_ble_eq_true rfl, by decide, by decide⟩ hlocks (by decide) (by decide) ?_
      exact ⟨rfl, Or.inr ⟨n2, Or.inl ⟨fun h8 => h8.1 c3, rfl⟩⟩⟩
    · skip
      refine lv_iload hx hb dd_C_hydrant_10 (lv_at hl 4 rfl) ?_
      refine lv_iconst (v := 3) hx hb dd_C_hydrant_12 (by decide) ?_
      refine lv_icmp_lt (tgt := 26) hx hb dd_C_hydrant_13 (by decide) (fun c4 => ?_) (fun c4 => ?_)
      · skip
        refine lv_iload_n hx hb dd_C_hydrant_26 rfl (lv_at hl 1 rfl) ?_
        refine lv_iload_n hx hb dd_C_hydrant_27 rfl (lv_at hl 2 rfl) ?_
        refine cx_afterX (cx_rSX (n := 2) (As := [.int p1, .int p2]) (rest := []) ⟨hx, hb, hml, hown, hg⟩ (c_C_needPlace l hT z D ac sa P p1 p2) (cx_gs gm_C_61 gt_C_needPlace gn_C gc_C_needPlace) (by decide +kernel) ⟨by decide, by decide⟩ hK hw rfl hl.1 rfl (Nat.le_of_ble_eq_true rfl) dd_C_hydrant_28 ⟨by decide, by decide⟩) hw (fun E9 ce9 q9 P9 H locs hp hw hce hcv hcl => ?_) (fun v9 P9 H locs hp hw => ?_)
        · skip
          obtain ⟨rfl, e9, n5⟩ := hp
          rw [e9] at hw
          clear e9 P9
          refine cx_pass hout hlocks hce hcv hcl hw ?_ (by decide) (by decide)
          exact ⟨rfl, Or.inr ⟨n2, Or.inr ⟨⟨c3, c4⟩, Or.inl ⟨n5, rfl⟩⟩⟩⟩
        · skip
          obtain ⟨rfl, e9, n6⟩ := hp
          rw [e9] at hw
          clear e9 P9
          refine W.eq (g2 := F0 m 31 ls []) rfl ?_
          refine lv_aload_n hx hb dd_C_hydrant_31 rfl (lv_at hl 0 rfl) ?_
          refine pm_get (ci := 0) (C := cn_C) (T := cf_C) (N := 8) (v := .int nh) hx hb hg gu_C hown hK.2.1 hw f0 rfl 5 (by decide) (hg _ gf_C_39) (fun _ h9 => h9) rfl dd_C_hydrant_32 ?_
          refine lv_istore (lv' := [(5, .int nh), (0, .ref h0), (1, .int p1), (2, .int p2), (3, .int p3), (4, .int p4)]) hx hb dd_C_hydrant_35 hl (by decide) rfl (fun ls hl => ?_)
          refine lv_iload hx hb dd_C_hydrant_37 (lv_at hl 0 rfl) ?_
          refine lv_if_lt (tgt := 52) hx hb dd_C_hydrant_39 (by decide) (fun c7 => ?_) (fun c7 => ?_)
          · skip
            refine cx_thrS (E := xn_UOE) (text := "no room for one more hydrant") hx hb hT (by rw [hml]; exact hl.1.symm) hown hg hK hw (by decide +kernel) gk_C_65 gn_UnsupportedOperationException xg_UOE xb_UOE xo_UOE (by decide +kernel) dd_C_hydrant_52 dd_C_hydrant_55 dd_C_hydrant_56 dd_C_hydrant_58 dd_C_hydrant_61 hout ⟨by decide, Nat.le_of_ble_eq_true rfl, by decide, by decide⟩ hlocks (by decide) (by decide) ?_
            exact ⟨rfl, Or.inr ⟨n2, Or.inr ⟨⟨c3, c4⟩, Or.inr ⟨n6, Or.inl ⟨fun h8 => h8.1 c7, rfl⟩⟩⟩⟩⟩
          · skip
            refine lv_iload hx hb dd_C_hydrant_42 (lv_at hl 0 rfl) ?_
            refine lv_aload_n hx hb dd_C_hydrant_44 rfl (lv_at hl 1 rfl) ?_
            refine pm_get (ci := 0) (C := cn_C) (T := cf_C) (N := 8) (v := .ref aH) hx hb hg gu_C hown hK.2.1 hw f0 rfl 0 (by decide) (hg _ gf_C_11) (fun _ h9 => h9) rfl dd_C_hydrant_45 ?_
            refine pm_alen (v := 40) hx hb hK.2.1 hw 3 f1 rfl rfl dd_C_hydrant_48 ?_
            refine lv_icmp_lt (tgt := 62) hx hb dd_C_hydrant_49 (by decide) (fun c8 => ?_) (fun c8 => ?_)
            · skip
              refine lv_aload_n hx hb dd_C_hydrant_62 rfl (lv_at hl 1 rfl) ?_
              refine pm_get (ci := 0) (C := cn_C) (T := cf_C) (N := 8) (v := .ref aH) hx hb hg gu_C hown hK.2.1 hw f0 rfl 0 (by decide) (hg _ gf_C_11) (fun _ h9 => h9) rfl dd_C_hydrant_63 ?_
              refine lv_iload hx hb dd_C_hydrant_66 (lv_at hl 0 rfl) ?_
              refine pm_new (ci := 1) (fs := [.int 0, .int 0, .int 0, .int 0, .int 0, .null, .int 0, .int 0, .int 0, .int 0, .null]) (C := cn_H) (T := cf_H) (N := 11) hx hb hg gu_H ct_H co_H hown (hg _ gk_C_9) (hg _ gx_H) (hg _ gn_H) hK.2.1 hw rfl (by decide +kernel) (Nat.le_of_ble_eq_true rfl) (Nat.le_of_ble_eq_true rfl) dd_C_hydrant_68 (fun q9 H hnq9 hw => ?_)
              have hw : pm_W z D cl_w (pm_up P q9 (.inr (1, [.int 0, .int 0, .int 0, .int 0, .int 0, .null, .int 0, .int 0, .int 0, .int 0, .null]))) s.heap H _ := hw
              obtain ⟨P10, eP10⟩ : ∃ pmv : pm_T, pmv = pm_up P q9 (.inr (1, [.int 0, .int 0, .int 0, .int 0, .int 0, .null, .int 0, .int 0, .int 0, .int 0, .null])) := ⟨_, rfl⟩
              rw [← eP10] at hw
              have f11 : P10 h0 = some (.inr (0, [.ref aH, .ref aT, .ref aL, .ref aK, .ref aW, .int nh, .int nt, .int al])) := by rw [eP10, pm_n (pm_nx f0 hnq9)]; exact f0
              have f12 : P10 aH = some (.inl (ac 3, 40, .inr (.inr (.inr (.inr fH))))) := by rw [eP10, pm_n (pm_nx f1 hnq9)]; exact f1
              have f13 : P10 aL = some (.inl (ac 0, 20, .inl lm)) := by rw [eP10, pm_n (pm_nx f2 hnq9)]; exact f2
              have f14 : P10 q9 = some (.inr (1, [.int 0, .int 0, .int 0, .int 0, .int 0, .null, .int 0, .int 0, .int 0, .int 0, .null])) := by rw [eP10]; exact pm_s
              have no_q9 : P q9 = none := hnq9
              have frP10 : ∀ a : Nat, P a ≠ none → a ≠ h0 → a ≠ aH → P10 a = P a := fun a h g0 g1 => by rw [eP10, pm_n (fun e9 => h (by rw [e9]; exact hnq9))]
              refine lv_dup hx hb dd_C_hydrant_71 rfl ?_
              refine lv_iload hx hb dd_C_hydrant_72 (lv_at hl 0 rfl) ?_
              refine lv_iload_n hx hb dd_C_hydrant_74 rfl (lv_at hl 2 rfl) ?_
              refine lv_iload_n hx hb dd_C_hydrant_75 rfl (lv_at hl 3 rfl) ?_
              refine lv_iload_n hx hb dd_C_hydrant_76 rfl (lv_at hl 4 rfl) ?_
              refine lv_iload hx hb dd_C_hydrant_77 (lv_at hl 5 rfl) ?_
              refine cx_after (cx_rI (n := 5) (As := [.int nh, .int p1, .int p2, .int p3, .int p4]) (rest := [.ref q9, .int nh, .ref aH]) ⟨hx, hb, hml, hown, hg⟩ (c_H_init l z D ac sa P10 q9 nh p1 p2 p3 p4 f14) gc_H_init gm_C_70 gi_H_init gn_H rfl (by decide +kernel) ⟨by decide, by decide⟩ hK hw rfl hl.1 rfl (Nat.le_of_ble_eq_true rfl) dd_C_hydrant_79 ⟨by decide, by decide⟩) hw (fun v9 P9 H locs hp hw => ?_)
              obtain ⟨rfl, qa15, hnqa15, e9⟩ := hp
              refine W.eq (g2 := F0 m 82 ls [.ref q9, .int nh, .ref aH]) rfl ?_
              obtain ⟨P16, eP16⟩ : ∃ pmv : pm_T, pmv = pm_up P10 qa15 (.inl (ac 5, 3, .inr (.inr (.inr (.inr (fun _ => none)))))) := ⟨_, rfl⟩
              have f17 : P16 h0 = some (.inr (0, [.ref aH, .ref aT, .ref aL, .ref aK, .ref aW, .int nh, .int nt, .int al])) := by rw [eP16, pm_n (pm_nx f11 hnqa15)]; exact f11
              have f18 : P16 aH = some (.inl (ac 3, 40, .inr (.inr (.inr (.inr fH))))) := by rw [eP16, pm_n (pm_nx f12 hnqa15)]; exact f12
              have f19 : P16 aL = some (.inl (ac 0, 20, .inl lm)) := by rw [eP16, pm_n (pm_nx f13 hnqa15)]; exact f13
              have f20 : P16 q9 = some (.inr (1, [.int 0, .int 0, .int 0, .int 0, .int 0, .null, .int 0, .int 0, .int 0, .int 0, .null])) := by rw [eP16, pm_n (pm_nx f14 hnqa15)]; exact f14
              have f21 : P16 qa15 = some (.inl (ac 5, 3, .inr (.inr (.inr (.inr (fun _ => none)))))) := by rw [eP16]; exact pm_s
              have no_qa15 : P qa15 = none := Classical.byContradiction (fun h => h ((frP10 qa15 h (pm_nx f11 hnqa15).symm (pm_nx f12 hnqa15).symm).symm.trans hnqa15))
              have ne_q9_qa15 : q9 ≠ qa15 := pm_nx f14 hnqa15
              have frP16 : ∀ a : Nat, P a ≠ none → a ≠ h0 → a ≠ aH → P16 a = P a := fun a h g0 g1 => by rw [eP16, pm_n (fun e9 => h ((frP10 a h g0 g1).symm.trans (by rw [e9]; exact hnqa15)))]; exact (frP10 a h g0 g1)
              rw [e9, ← eP16] at hw
              clear e9
              have hw : pm_W z D cl_w (pm_up P16 q9 (.inr (1, [.int nh, .int p1, .int p2, .int p3, .int p4, .ref qa15, .int 0, .int 0, .int 0, .int 0, .null]))) s.heap H _ := hw
              obtain ⟨P22, eP22⟩ : ∃ pmv : pm_T, pmv = pm_up P16 q9 (.inr (1, [.int nh, .int p1, .int p2, .int p3, .int p4, .ref qa15, .int 0, .int 0, .int 0, .int 0, .null])) := ⟨_, rfl⟩
              rw [← eP22] at hw
              have f23 : P22 h0 = some (.inr (0, [.ref aH, .ref aT, .ref aL, .ref aK, .ref aW, .int nh, .int nt, .int al])) := by rw [eP22, pm_n (pm_ne f17 f20 (by simp))]; exact f17
              have f24 : P22 aH = some (.inl (ac 3, 40, .inr (.inr (.inr (.inr fH))))) := by rw [eP22, pm_n (pm_ne f18 f20 (by simp))]; exact f18
              have f25 : P22 aL = some (.inl (ac 0, 20, .inl lm)) := by rw [eP22, pm_n (pm_ne f19 f20 (by simp))]; exact f19
              have f26 : P22 qa15 = some (.inl (ac 5, 3, .inr (.inr (.inr (.inr (fun _ => none)))))) := by rw [eP22, pm_n (pm_ne f21 f20 (by simp))]; exact f21
              have f27 : P22 q9 = some (.inr (1, [.int nh, .int p1, .int p2, .int p3, .int p4, .ref qa15, .int 0, .int 0, .int 0, .int 0, .null])) := by rw [eP22]; exact pm_s
              have frP22 : ∀ a : Nat, P a ≠ none → a ≠ h0 → a ≠ aH → P22 a = P a := fun a h g0 g1 => by rw [eP22, pm_n (fun e9 => h (by rw [e9]; exact no_q9))]; exact (frP16 a h g0 g1)
              refine pm_aast (r := (cn_H, cf_H, 11)) hx hb hK.2.1 hw 3 1 f24 rfl f27 rfl (vp_in_lg (n := 40) (by decide) c7 c8) dd_C_hydrant_82 (fun H locs hw => ?_)
              have hw : pm_W z D cl_w (pm_up P22 aH (.inl (ac 3, 40, .inr (.inr (.inr (.inr (va_up fH nh.toNatClampNeg (some q9)))))))) s.heap H _ := hw
              obtain ⟨P28, eP28⟩ : ∃ pmv : pm_T, pmv = pm_up P22 aH (.inl (ac 3, 40, .inr (.inr (.inr (.inr (va_up fH nh.toNatClampNeg (some q9))))))) := ⟨_, rfl⟩
              rw [← eP28] at hw
              have f29 : P28 h0 = some (.inr (0, [.ref aH, .ref aT, .ref aL, .ref aK, .ref aW, .int nh, .int nt, .int al])) := by rw [eP28, pm_n (pm_ne f23 f24 (by simp))]; exact f23
              have f30 : P28 aL = some (.inl (ac 0, 20, .inl lm)) := by rw [eP28, pm_n (pm_ne f25 f24 (by simp))]; exact f25
              have f31 : P28 qa15 = some (.inl (ac 5, 3, .inr (.inr (.inr (.inr (fun _ => none)))))) := by rw [eP28, pm_n (pm_ne f26 f24 (by simp))]; exact f26
              have f32 : P28 q9 = some (.inr (1, [.int nh, .int p1, .int p2, .int p3, .int p4, .ref qa15, .int 0, .int 0, .int 0, .int 0, .null])) := by rw [eP28, pm_n (pm_ne f27 f24 (by simp))]; exact f27
              have f33 : P28 aH = some (.inl (ac 3, 40, .inr (.inr (.inr (.inr (va_up fH nh.toNatClampNeg (some q9))))))) := by rw [eP28]; exact pm_s
              have frP28 : ∀ a : Nat, P a ≠ none → a ≠ h0 → a ≠ aH → P28 a = P a := fun a h g0 g1 => by rw [eP28, pm_n g1]; exact (frP22 a h g0 g1)
              refine lv_aload_n hx hb dd_C_hydrant_83 rfl (lv_at hl 1 rfl) ?_
              refine lv_iload hx hb dd_C_hydrant_84 (lv_at hl 0 rfl) ?_
              refine lv_iconst (v := 1) hx hb dd_C_hydrant_86 (by decide) ?_
              refine lv_iadd hx hb dd_C_hydrant_87 ?_
              refine lv_topi (fun x34 ex34 => ?_)
              refine pm_put (ci := 0) (v := .int x34) (ty := .int) (C := cn_C) (T := cf_C) (N := 8) hx hb hg gu_C ct_C co_C cm_C hown hK.2.1 hw f29 rfl 5 (by decide) (hg _ gf_C_39) (fun _ h9 => h9) rfl (by decide +kernel) rfl rfl (Nat.le_of_ble_eq_true rfl) dd_C_hydrant_88 (fun H locs hw => ?_)
              have hw : pm_W z D cl_w (pm_up P28 h0 (.inr (0, [.ref aH, .ref aT, .ref aL, .ref aK, .ref aW, .int x34, .int nt, .int al]))) s.heap H _ := hw
              obtain ⟨P35, eP35⟩ : ∃ pmv : pm_T, pmv = pm_up P28 h0 (.inr (0, [.ref aH, .ref aT, .ref aL, .ref aK, .ref aW, .int x34, .int nt, .int al])) := ⟨_, rfl⟩
              rw [← eP35] at hw
              have f36 : P35 aL = some (.inl (ac 0, 20, .inl lm)) := by rw [eP35, pm_n (pm_ne f30 f29 (by simp))]; exact f30
              have f37 : P35 qa15 = some (.inl (ac 5, 3, .inr (.inr (.inr (.inr (fun _ => none)))))) := by rw [eP35, pm_n (pm_ne f31 f29 (by simp))]; exact f31
              have f38 : P35 q9 = some (.inr (1, [.int nh, .int p1, .int p2, .int p3, .int p4, .ref qa15, .int 0, .int 0, .int 0, .int 0, .null])) := by rw [eP35, pm_n (pm_ne f32 f29 (by simp))]; exact f32
              have f39 : P35 aH = some (.inl (ac 3, 40, .inr (.inr (.inr (.inr (va_up fH nh.toNatClampNeg (some q9))))))) := by rw [eP35, pm_n (pm_ne f33 f29 (by simp))]; exact f33
              have f40 : P35 h0 = some (.inr (0, [.ref aH, .ref aT, .ref aL, .ref aK, .ref aW, .int x34, .int nt, .int al])) := by rw [eP35]; exact pm_s
              have frP35 : ∀ a : Nat, P a ≠ none → a ≠ h0 → a ≠ aH → P35 a = P a := fun a h g0 g1 => by rw [eP35, pm_n g0]; exact (frP28 a h g0 g1)
              refine lv_iload hx hb dd_C_hydrant_91 (lv_at hl 0 rfl) ?_
              refine vx_ret (cx_iret (v := nh) hx hb hr rfl hlocks hw dd_C_hydrant_93 (by decide) (by decide) ?_)
              rw [ex34] at f40
              exact ⟨⟨n2, ⟨c3, c4⟩, n6, ⟨c7, c8⟩, trivial⟩, rfl, q9, qa15, ⟨no_q9, no_qa15⟩, f38, f37, f39, f40, frP35⟩
            · skip
              refine cx_thrS (E := xn_UOE) (text := "no room for one more hydrant") hx hb hT (by rw [hml]; exact hl.1.symm) hown hg hK hw (by decide +kernel) gk_C_65 gn_UnsupportedOperationException xg_UOE xb_UOE xo_UOE (by decide +kernel) dd_C_hydrant_52 dd_C_hydrant_55 dd_C_hydrant_56 dd_C_hydrant_58 dd_C_hydrant_61 hout ⟨by decide, Nat.le_of_ble_eq_true rfl, by decide, by decide⟩ hlocks (by decide) (by decide) ?_
              exact ⟨rfl, Or.inr ⟨n2, Or.inr ⟨⟨c3, c4⟩, Or.inr ⟨n6, Or.inl ⟨fun h8 => c8 h8.2, rfl⟩⟩⟩⟩⟩
      · skip
        refine cx_thrS (E := xn_IAE) (text := "no such kind") hx hb hT (by rw [hml]; exact hl.1.symm) hown hg hK hw (by decide +kernel) gk_C_54 gn_IllegalArgumentException xg_IAE xb_IAE xo_IAE (by decide +kernel) dd_C_hydrant_16 dd_C_hydrant_19 dd_C_hydrant_20 dd_C_hydrant_22 dd_C_hydrant_25 hout ⟨by decide, Nat.le_of_ble_eq_true rfl, by decide, by decide⟩ hlocks (by decide) (by decide) ?_
        exact ⟨rfl, Or.inr ⟨n2, Or.inl ⟨fun h8 => c4 h8.2, rfl⟩⟩⟩

set_option maxHeartbeats 4000000 in
set_option maxRecDepth 100000 in
theorem c_C_test (l : Launch) (hT : l.stackTraces = false) (z : Nat) (D : va_G) (ac : Nat → ClassId) (sa : Nat → Nat) (P : pm_T) (h0 aH aT aL aK aW : Nat) (nh nt al : Int32) (fH : Nat → Option Nat) (hv tv ov : Nat → Nat → Int32) (aw : Nat → Nat) (ct : Nat → Option Nat) (fw : Nat → Nat → Option Nat) (fT : Nat → Option Nat) (p1 p2 p3 p4 p5 : Int32) (fy : hy_W P ac fH hv tv ov aw ct fw) (f0 : P h0 = some (.inr (0, [.ref aH, .ref aT, .ref aL, .ref aK, .ref aW, .int nh, .int nt, .int al]))) (f1 : P aH = some (.inl (ac 3, 40, .inr (.inr (.inr (.inr fH)))))) (f2 : P aT = some (.inl (ac 4, 100, .inr (.inr (.inr (.inr fT)))))) : cx_V l yy_C_test bb_C_test 9 (some .int) ({ frames := 7, cells := 9, slots := 50, locals := 150 } : Room) z D ac sa P [.ref h0, .int p1, .int p2, .int p3, .int p4, .int p5] (fun v P' => su_al [(¬ su_kn p1 fH = none, xn_IAE), (su_day p2, xn_IOB), (su_pr p3, xn_IOB), (su_pr p5, xn_IOB), (su_fl p4, xn_IOB), (p5 ≤ p3, xn_ISE), (¬ nt < 0 ∧ nt < 100, xn_UOE)] ∧ v = some (.int nt) ∧ ∃ q t, su_kn p1 fH = some q ∧ P t = none ∧ P' t = some (.inr (2, [.int nt, .int p1, .int p2, .int p3, .int p4, .int p5])) ∧ P' aT = some (.inl (ac 4, 100, .inr (.inr (.inr (.inr (va_up fT nt.toNatClampNeg (some t))))))) ∧ P' h0 = some (.inr (0, [.ref aH, .ref aT, .ref aL, .ref aK, .ref aW, .int nh, .int (nt + 1), .int al])) ∧ P' q = some (.inr (1, [.int (hv 0 q), .int (hv 1 q), .int (hv 2 q), .int (hv 3 q), .int (hv 4 q), .ref (aw q), .int (hv 6 q), .int (hv 7 q), .int (hv 8 q), .int (hv 9 q + 1), va_rf (su_ct (ct q) (tv 2) t p2)])) ∧ ∀ a : Nat, P a ≠ none → a ≠ h0 → a ≠ aT → a ≠ q → P' a = P a) (fun E P' => P' = P ∧ su_xs [(¬ su_kn p1 fH = none, xn_IAE), (su_day p2, xn_IOB), (su_pr p3, xn_IOB), (su_pr p5, xn_IOB), (su_fl p4, xn_IOB), (p5 ≤ p3, xn_ISE), (¬ nt < 0 ∧ nt < 100, xn_UOE)] E) := by
  refine cx_ofV (by decide) (Nat.le_of_ble_eq_true rfl) (fun p e s m below meth c ls hx hb hr hml hg hown hlocks hout hK hw hl => ?_)
  have hl : lv_has ls 9 [(0, .ref h0), (1, .int p1), (2, .int p2), (3, .int p3), (4, .int p4), (5, .int p5)] := hl
  have hown : s.vm.findClass cn_C = some m.cls := hown
  refine lv_aload_n hx hb dd_C_test_0 rfl (lv_at hl 0 rfl) ?_
  refine lv_iload_n hx hb dd_C_test_1 rfl (lv_at hl 1 rfl) ?_
  refine cx_afterX (cx_rVX (n := 1) (As := [.int p1]) (rest := []) ⟨hx, hb, hml, hown, hg⟩ (c_C_known l hT z D ac sa P h0 aH aT aL aK aW nh nt al fH p1 f0 f1) (cx_gv gm_C_76 gi_C_known gs_C_known gn_C gc_C_known) (by decide +kernel) ⟨by decide, by decide⟩ hK hw f0 rfl rfl hl.1 rfl (Nat.le_of_ble_eq_true rfl) dd_C_test_2 ⟨by decide, by decide⟩) hw (fun E9 ce9 q9 P9 H locs hp hw hce hcv hcl => ?_) (fun v9 P9 H locs hp hw => ?_)
  · skip
    obtain ⟨rfl, e9, hn9⟩ := hp
    rw [e9] at hw
    clear e9 P9
    refine cx_pass hout hlocks hce hcv hcl hw ?_ (by decide) (by decide)
    exact ⟨rfl, Or.inl ⟨fun h8 => h8 hn9, rfl⟩⟩
  · skip
    obtain ⟨q, rfl, e9, hkq⟩ := hp
    rw [e9] at hw
    clear e9 P9
    obtain ⟨fqq, fqwq, fovq, ftq⟩ := fy _ q (su_kn_at hkq)
    refine W.eq (g2 := F0 m 5 ls [.ref q]) rfl ?_
    refine lv_astore (lv' := [(6, .ref q), (0, .ref h0), (1, .int p1), (2, .int p2), (3, .int p3), (4, .int p4), (5, .int p5)]) hx hb dd_C_test_5 hl (by decide) rfl (fun ls hl => ?_)
    refine lv_iload_n hx hb dd_C_test_7 rfl (lv_at hl 3 rfl) ?_
    refine cx_afterX (cx_rSX (n := 1) (As := [.int p2]) (rest := []) ⟨hx, hb, hml, hown, hg⟩ (c_C_needDay l hT z D ac sa P p2) (cx_gs gm_C_80 gt_C_needDay gn_C gc_C_needDay) (by decide +kernel) ⟨by decide, by decide⟩ hK hw rfl hl.1 rfl (Nat.le_of_ble_eq_true rfl) dd_C_test_8 ⟨by decide, by decide⟩) hw (fun E9 ce9 q9 P9 H locs hp hw hce hcv hcl => ?_) (fun v9 P9 H locs hp hw => ?_)
    · skip
      obtain ⟨rfl, e9, n1⟩ := hp
      rw [e9] at hw
      clear e9 P9
      refine cx_pass hout hlocks hce hcv hcl hw ?_ (by decide) (by decide)
      exact ⟨rfl, Or.inr ⟨su_ne hkq, Or.inl ⟨n1, rfl⟩⟩⟩
    · skip
      obtain ⟨rfl, e9, n2⟩ := hp
      rw [e9] at hw
      clear e9 P9
      refine W.eq (g2 := F0 m 11 ls []) rfl ?_
      refine lv_iload_n hx hb dd_C_test_11 rfl (lv_at hl 4 rfl) ?_
      refine cx_afterX (cx_rSX (n := 1) (As := [.int p3]) (rest := []) ⟨hx, hb, hml, hown, hg⟩ (c_C_needPressure l hT z D ac sa P p3) (cx_gs gm_C_83 gt_C_needPressure gn_C gc_C_needPressure) (by decide +kernel) ⟨by decide, by decide⟩ hK hw rfl hl.1 rfl (Nat.le_of_ble_eq_true rfl) dd_C_test_12 ⟨by decide, by decide⟩) hw (fun E9 ce9 q9 P9 H locs hp hw hce hcv hcl => ?_) (fun v9 P9 H locs hp hw => ?_)
      · skip
        obtain ⟨rfl, e9, n3⟩ := hp
        rw [e9] at hw
        clear e9 P9
        refine cx_pass hout hlocks hce hcv hcl hw ?_ (by decide) (by decide)
        exact ⟨rfl, Or.inr ⟨su_ne hkq, Or.inr ⟨n2, Or.inl ⟨n3, rfl⟩⟩⟩⟩
      · skip
        obtain ⟨rfl, e9, n4⟩ := hp
        rw [e9] at hw
        clear e9 P9
        refine W.eq (g2 := F0 m 15 ls []) rfl ?_
        refine lv_iload hx hb dd_C_test_15 (lv_at hl 6 rfl) ?_
        refine cx_afterX (cx_rSX (n := 1) (As := [.int p5]) (rest := []) ⟨hx, hb, hml, hown, hg⟩ (c_C_needPressure l hT z D ac sa P p5) (cx_gs gm_C_83 gt_C_needPressure gn_C gc_C_needPressure) (by decide +kernel) ⟨by decide, by decide⟩ hK hw rfl hl.1 rfl (Nat.le_of_ble_eq_true rfl) dd_C_test_17 ⟨by decide, by decide⟩) hw (fun E9 ce9 q9 P9 H locs hp hw hce hcv hcl => ?_) (fun v9 P9 H locs hp hw => ?_)
        · skip
          obtain ⟨rfl, e9, n5⟩ := hp
          rw [e9] at hw
          clear e9 P9
          refine cx_pass hout hlocks hce hcv hcl hw ?_ (by decide) (by decide)
          exact ⟨rfl, Or.inr ⟨su_ne hkq, Or.inr ⟨n2, Or.inr ⟨n4, Or.inl ⟨n5, rfl⟩⟩⟩⟩⟩
        · skip
          obtain ⟨rfl, e9, n6⟩ := hp
          rw [e9] at hw
          clear e9 P9
          refine W.eq (g2 := F0 m 20 ls []) rfl ?_
          refine lv_iload hx hb dd_C_test_20 (lv_at hl 5 rfl) ?_
          refine cx_afterX (cx_rSX (n := 1) (As := [.int p4]) (rest := []) ⟨hx, hb, hml, hown, hg⟩ (c_C_needFlow l hT z D ac sa P p4) (cx_gs gm_C_73 gt_C_needFlow gn_C gc_C_needFlow) (by decide +kernel) ⟨by decide, by decide⟩ hK hw rfl hl.1 rfl (Nat.le_of_ble_eq_true rfl) dd_C_test_22 ⟨by decide, by decide⟩) hw (fun E9 ce9 q9 P9 H locs hp hw hce hcv hcl => ?_) (fun v9 P9 H locs hp hw => ?_)
          · skip
            obtain ⟨rfl, e9, n7⟩ := hp
            rw [e9] at hw
            clear e9 P9
            refine cx_pass hout hlocks hce hcv hcl hw ?_ (by decide) (by decide)
            exact ⟨rfl, Or.inr ⟨su_ne hkq, Or.inr ⟨n2, Or.inr ⟨n4, Or.inr ⟨n6, Or.inl ⟨n7, rfl⟩⟩⟩⟩⟩⟩
          · skip
            obtain ⟨rfl, e9, n8⟩ := hp
            rw [e9] at hw
            clear e9 P9
            refine W.eq (g2 := F0 m 25 ls []) rfl ?_
            refine lv_iload hx hb dd_C_test_25 (lv_at hl 6 rfl) ?_
            refine lv_iload_n hx hb dd_C_test_27 rfl (lv_at hl 4 rfl) ?_
            refine lv_icmp_le (tgt := 41) hx hb dd_C_test_28 (by decide) (fun c9 => ?_) (fun c9 => ?_)
            · skip
              refine lv_aload_n hx hb dd_C_test_41 rfl (lv_at hl 1 rfl) ?_
              refine pm_get (ci := 0) (C := cn_C) (T := cf_C) (N := 8) (v := .int nt) hx hb hg gu_C hown hK.2.1 hw f0 rfl 6 (by decide) (hg _ gf_C_43) (fun _ h9 => h9) rfl dd_C_test_42 ?_
              refine lv_istore (lv' := [(7, .int nt), (6, .ref q), (0, .ref h0), (1, .int p1), (2, .int p2), (3, .int p3), (4, .int p4), (5, .int p5)]) hx hb dd_C_test_45 hl (by decide) rfl (fun ls hl => ?_)
              refine lv_iload hx hb dd_C_test_47 (lv_at hl 0 rfl) ?_
              refine lv_if_lt (tgt := 62) hx hb dd_C_test_49 (by decide) (fun c10 => ?_) (fun c10 => ?_)
              · skip
                refine cx_thrS (E := xn_UOE) (text := "no room for one more test") hx hb hT (by rw [hml]; exact hl.1.symm) hown hg hK hw (by decide +kernel) gk_C_65 gn_UnsupportedOperationException xg_UOE xb_UOE xo_UOE (by decide +kernel) dd_C_test_62 dd_C_test_65 dd_C_test_66 dd_C_test_68 dd_C_test_71 hout ⟨by decide, Nat.le_of_ble_eq_true rfl, by decide, by decide⟩ hlocks (by decide) (by decide) ?_
                exact ⟨rfl, Or.inr ⟨su_ne hkq, Or.inr ⟨n2, Or.inr ⟨n4, Or.inr ⟨n6, Or.inr ⟨n8, Or.inr ⟨c9, Or.inl ⟨fun h8 => h8.1 c10, rfl⟩⟩⟩⟩⟩⟩⟩⟩
              · skip
                refine lv_iload hx hb dd_C_test_52 (lv_at hl 0 rfl) ?_
                refine lv_aload_n hx hb dd_C_test_54 rfl (lv_at hl 2 rfl) ?_
                refine pm_get (ci := 0) (C := cn_C) (T := cf_C) (N := 8) (v := .ref aT) hx hb hg gu_C hown hK.2.1 hw f0 rfl 1 (by decide) (hg _ gf_C_17) (fun _ h9 => h9) rfl dd_C_test_55 ?_
                refine pm_alen (v := 100) hx hb hK.2.1 hw 4 f2 rfl rfl dd_C_test_58 ?_
                refine lv_icmp_lt (tgt := 72) hx hb dd_C_test_59 (by decide) (fun c11 => ?_) (fun c11 => ?_)
                · skip
                  refine pm_new (ci := 2) (fs := [.int 0, .int 0, .int 0, .int 0, .int 0, .int 0]) (C := cn_T) (T := cf_T) (N := 6) hx hb hg gu_T ct_T co_T hown (hg _ gk_C_15) (hg _ gx_T) (hg _ gn_T) hK.2.1 hw rfl (by decide +kernel) (Nat.le_of_ble_eq_true rfl) (Nat.le_of_ble_eq_true rfl) dd_C_test_72 (fun q12 H hnq12 hw => ?_)
                  have hw : pm_W z D cl_w (pm_up P q12 (.inr (2, [.int 0, .int 0, .int 0, .int 0, .int 0, .int 0]))) s.heap H _ := hw
                  obtain ⟨P13, eP13⟩ : ∃ pmv : pm_T, pmv = pm_up P q12 (.inr (2, [.int 0, .int 0, .int 0, .int 0, .int 0, .int 0])) := ⟨_, rfl⟩
                  rw [← eP13] at hw
                  have f14 : P13 h0 = some (.inr (0, [.ref aH, .ref aT, .ref aL, .ref aK, .ref aW, .int nh, .int nt, .int al])) := by rw [eP13, pm_n (pm_nx f0 hnq12)]; exact f0
                  have f15 : P13 aH = some (.inl (ac 3, 40, .inr (.inr (.inr (.inr fH))))) := by rw [eP13, pm_n (pm_nx f1 hnq12)]; exact f1
                  have f16 : P13 aT = some (.inl (ac 4, 100, .inr (.inr (.inr (.inr fT))))) := by rw [eP13, pm_n (pm_nx f2 hnq12)]; exact f2
                  have f17 : P13 q = some (.inr (1, [.int (hv 0 q), .int (hv 1 q), .int (hv 2 q), .int (hv 3 q), .int (hv 4 q), .ref (aw q), .int (hv 6 q), .int (hv 7 q), .int (hv 8 q), .int (hv 9 q), va_rf (ct q)])) := by rw [eP13, pm_n (pm_nx fqq hnq12)]; exact fqq
                  have f18 : P13 (aw q) = some (.inl (ac 5, 3, .inr (.inr (.inr (.inr (fw q)))))) := by rw [eP13, pm_n (pm_nx fqwq hnq12)]; exact fqwq
                  have f19 : P13 q12 = some (.inr (2, [.int 0, .int 0, .int 0, .int 0, .int 0, .int 0])) := by rw [eP13]; exact pm_s
                  have no_q12 : P q12 = none := hnq12
                  have frP13 : ∀ a : Nat, P a ≠ none → a ≠ h0 → a ≠ aT → P13 a = P a := fun a h g0 g1 => by rw [eP13, pm_n (fun e9 => h (by rw [e9]; exact hnq12))]
                  refine lv_dup hx hb dd_C_test_75 rfl ?_
                  refine lv_iload hx hb dd_C_test_76 (lv_at hl 0 rfl) ?_
                  refine lv_iload_n hx hb dd_C_test_78 rfl (lv_at hl 3 rfl) ?_
                  refine lv_iload_n hx hb dd_C_test_79 rfl (lv_at hl 4 rfl) ?_
                  refine lv_iload_n hx hb dd_C_test_80 rfl (lv_at hl 5 rfl) ?_
                  refine lv_iload hx hb dd_C_test_81 (lv_at hl 6 rfl) ?_
                  refine lv_iload hx hb dd_C_test_83 (lv_at hl 7 rfl) ?_
                  refine cx_after (cx_rI (n := 6) (As := [.int nt, .int p1, .int p2, .int p3, .int p4, .int p5]) (rest := [.ref q12]) ⟨hx, hb, hml, hown, hg⟩ (c_T_init l z D ac sa P13 q12 nt p1 p2 p3 p4 p5 f19) gc_T_init gm_C_93 gi_T_init gn_T rfl (by decide +kernel) ⟨by decide, by decide⟩ hK hw rfl hl.1 rfl (Nat.le_of_ble_eq_true rfl) dd_C_test_85 ⟨by decide, by decide⟩) hw (fun v9 P9 H locs hp hw => ?_)
                  obtain ⟨rfl, e9⟩ := hp
                  rw [e9] at hw
                  clear e9 P9
                  refine W.eq (g2 := F0 m 88 ls [.ref q12]) rfl ?_
                  have hw : pm_W z D cl_w (pm_up P13 q12 (.inr (2, [.int nt, .int p1, .int p2, .int p3, .int p4, .int p5]))) s.heap H _ := hw
                  obtain ⟨P20, eP20⟩ : ∃ pmv : pm_T, pmv = pm_up P13 q12 (.inr (2, [.int nt, .int p1, .int p2, .int p3, .int p4, .int p5])) := ⟨_, rfl⟩
                  rw [← eP20] at hw
                  have f21 : P20 h0 = some (.inr (0, [.ref aH, .ref aT, .ref aL, .ref aK, .ref aW, .int nh, .int nt, .int al])) := by rw [eP20, pm_n (pm_ne f14 f19 (by simp))]; exact f14
                  have f22 : P20 aH = some (.inl (ac 3, 40, .inr (.inr (.inr (.inr fH))))) := by rw [eP20, pm_n (pm_ne f15 f19 (by simp))]; exact f15
                  have f23 : P20 aT = some (.inl (ac 4, 100, .inr (.inr (.inr (.inr fT))))) := by rw [eP20, pm_n (pm_ne f16 f19 (by simp))]; exact f16
                  have f24 : P20 q = some (.inr (1, [.int (hv 0 q), .int (hv 1 q), .int (hv 2 q), .int (hv 3 q), .int (hv 4 q), .ref (aw q), .int (hv 6 q), .int (hv 7 q), .int (hv 8 q), .int (hv 9 q), va_rf (ct q)])) := by rw [eP20, pm_n (pm_ne f17 f19 (by simp))]; exact f17
                  have f25 : P20 (aw q) = some (.inl (ac 5, 3, .inr (.inr (.inr (.inr (fw q)))))) := by rw [eP20, pm_n (pm_ne f18 f19 (by simp))]; exact f18
                  have f26 : P20 q12 = some (.inr (2, [.int nt, .int p1, .int p2, .int p3, .int p4, .int p5])) := by rw [eP20]; exact pm_s
                  have frP20 : ∀ a : Nat, P a ≠ none → a ≠ h0 → a ≠ aT → P20 a = P a := fun a h g0 g1 => by rw [eP20, pm_n (fun e9 => h (by rw [e9]; exact no_q12))]; exact (frP13 a h g0 g1)
                  refine lv_astore (lv' := [(8, .ref q12), (7, .int nt), (6, .ref q), (0, .ref h0), (1, .int p1), (2, .int p2), (3, .int p3), (4, .int p4), (5, .int p5)]) hx hb dd_C_test_88 hl (by decide) rfl (fun ls hl => ?_)
                  refine lv_aload_n hx hb dd_C_test_90 rfl (lv_at hl 3 rfl) ?_
                  refine pm_get (ci := 0) (C := cn_C) (T := cf_C) (N := 8) (v := .ref aT) hx hb hg gu_C hown hK.2.1 hw f21 rfl 1 (by decide) (hg _ gf_C_17) (fun _ h9 => h9) rfl dd_C_test_91 ?_
                  refine lv_iload hx hb dd_C_test_94 (lv_at hl 1 rfl) ?_
                  refine lv_aload hx hb dd_C_test_96 (lv_at hl 0 rfl) ?_
                  refine pm_aast (r := (cn_T, cf_T, 6)) hx hb hK.2.1 hw 4 2 f23 rfl f26 rfl (vp_in_lg (n := 100) (by decide) c10 c11) dd_C_test_98 (fun H locs hw => ?_)
                  have hw : pm_W z D cl_w (pm_up P20 aT (.inl (ac 4, 100, .inr (.inr (.inr (.inr (va_up fT nt.toNatClampNeg (some q12)))))))) s.heap H _ := hw
                  obtain ⟨P27, eP27⟩ : ∃ pmv : pm_T, pmv = pm_up P20 aT (.inl (ac 4, 100, .inr (.inr (.inr (.inr (va_up fT nt.toNatClampNeg (some q12))))))) := ⟨_, rfl⟩
                  rw [← eP27] at hw
                  have f28 : P27 h0 = some (.inr (0, [.ref aH, .ref aT, .ref aL, .ref aK, .ref aW, .int nh, .int nt, .int al])) := by rw [eP27, pm_n (pm_ne f21 f23 (by simp))]; exact f21
                  have f29 : P27 aH = some (.inl (ac 3, 40, .inr (.inr (.inr (.inr fH))))) := by rw [eP27, pm_n (pm_ne f22 f23 (by simp))]; exact f22
                  have f30 : P27 q = some (.inr (1, [.int (hv 0 q), .int (hv 1 q), .int (hv 2 q), .int (hv 3 q), .int (hv 4 q), .ref (aw q), .int (hv 6 q), .int (hv 7 q), .int (hv 8 q), .int (hv 9 q), va_rf (ct q)])) := by rw [eP27, pm_n (pm_ne f24 f23 (by simp))]; exact f24
                  have f31 : P27 (aw q) = some (.inl (ac 5, 3, .inr (.inr (.inr (.inr (fw q)))))) := by rw [eP27, pm_n (pm_ne f25 f23 (by simp))]; exact f25
                  have f32 : P27 q12 = some (.inr (2, [.int nt, .int p1, .int p2, .int p3, .int p4, .int p5])) := by rw [eP27, pm_n (pm_ne f26 f23 (by simp))]; exact f26
                  have f33 : P27 aT = some (.inl (ac 4, 100, .inr (.inr (.inr (.inr (va_up fT nt.toNatClampNeg (some q12))))))) := by rw [eP27]; exact pm_s
                  have frP27 : ∀ a : Nat, P a ≠ none → a ≠ h0 → a ≠ aT → P27 a = P a := fun a h g0 g1 => by rw [eP27, pm_n g1]; exact (frP20 a h g0 g1)
                  refine lv_aload_n hx hb dd_C_test_99 rfl (lv_at hl 3 rfl) ?_
                  refine lv_iload hx hb dd_C_test_100 (lv_at hl 1 rfl) ?_
                  refine lv_iconst (v := 1) hx hb dd_C_test_102 (by decide) ?_
                  refine lv_iadd hx hb dd_C_test_103 ?_
                  refine lv_topi (fun x34 ex34 => ?_)
                  refine pm_put (ci := 0) (v := .int x34) (ty := .int) (C := cn_C) (T := cf_C) (N := 8) hx hb hg gu_C ct_C co_C cm_C hown hK.2.1 hw f28 rfl 6 (by decide) (hg _ gf_C_43) (fun _ h9 => h9) rfl (by decide +kernel) rfl rfl (Nat.le_of_ble_eq_true rfl) dd_C_test_104 (fun H locs hw => ?_)
                  have hw : pm_W z D cl_w (pm_up P27 h0 (.inr (0, [.ref aH, .ref aT, .ref aL, .ref aK, .ref aW, .int nh, .int x34, .int al]))) s.heap H _ := hw
                  obtain ⟨P35, eP35⟩ : ∃ pmv : pm_T, pmv = pm_up P27 h0 (.inr (0, [.ref aH, .ref aT, .ref aL, .ref aK, .ref aW, .int nh, .int x34, .int al])) := ⟨_, rfl⟩
                  rw [← eP35] at hw
                  have f36 : P35 aH = some (.inl (ac 3, 40, .inr (.inr (.inr (.inr fH))))) := by rw [eP35, pm_n (pm_ne f29 f28 (by simp))]; exact f29
                  have f37 : P35 q = some (.inr (1, [.int (hv 0 q), .int (hv 1 q), .int (hv 2 q), .int (hv 3 q), .int (hv 4 q), .ref (aw q), .int (hv 6 q), .int (hv 7 q), .int (hv 8 q), .int (hv 9 q), va_rf (ct q)])) := by rw [eP35, pm_n (pm_ne f30 f28 (by simp))]; exact f30
                  have f38 : P35 (aw q) = some (.inl (ac 5, 3, .inr (.inr (.inr (.inr (fw q)))))) := by rw [eP35, pm_n (pm_ne f31 f28 (by simp))]; exact f31
                  have f39 : P35 q12 = some (.inr (2, [.int nt, .int p1, .int p2, .int p3, .int p4, .int p5])) := by rw [eP35, pm_n (pm_ne f32 f28 (by simp))]; exact f32
                  have f40 : P35 aT = some (.inl (ac 4, 100, .inr (.inr (.inr (.inr (va_up fT nt.toNatClampNeg (some q12))))))) := by rw [eP35, pm_n (pm_ne f33 f28 (by simp))]; exact f33
                  have f41 : P35 h0 = some (.inr (0, [.ref aH, .ref aT, .ref aL, .ref aK, .ref aW, .int nh, .int x34, .int al])) := by rw [eP35]; exact pm_s
                  have frP35 : ∀ a : Nat, P a ≠ none → a ≠ h0 → a ≠ aT → P35 a = P a := fun a h g0 g1 => by rw [eP35, pm_n g0]; exact (frP27 a h g0 g1)
                  refine lv_aload hx hb dd_C_test_107 (lv_at hl 2 rfl) ?_
                  refine lv_aload hx hb dd_C_test_109 (lv_at hl 0 rfl) ?_
                  have ftk : ∀ u, ct q = some u → P35 u = some (.inr (2, [.int (tv 0 u), .int (tv 1 u), .int (tv 2 u), .int (tv 3 u), .int (tv 4 u), .int (tv 5 u)])) := fun u hu => (frP35 u (by rw [ftq u hu]; exact fun h => nomatch h) (pm_ne (ftq u hu) f0 (by simp)) (pm_ne (ftq u hu) f2 (by simp))).trans (ftq u hu)
                  refine cx_after (cx_rV (n := 1) (As := [.ref q12]) (rest := []) ⟨hx, hb, hml, hown, hg⟩ (c_H_take l z D ac sa P35 q (aw q) (hv 0 q) (hv 1 q) (hv 2 q) (hv 3 q) (hv 4 q) (hv 6 q) (hv 7 q) (hv 8 q) (hv 9 q) (ct q) (tv 0) (tv 1) (tv 2) (tv 3) (tv 4) (tv 5) q12 nt p1 p2 p3 p4 p5 ftk f37 f39) (cx_gv gm_C_96 gi_H_take gs_H_take gn_H gc_H_take) (by decide +kernel) ⟨by decide, by decide⟩ hK hw f37 rfl rfl hl.1 rfl (Nat.le_of_ble_eq_true rfl) dd_C_test_111 ⟨by decide, by decide⟩) hw (fun v9 P9 H locs hp hw => ?_)
                  obtain ⟨rfl, e9⟩ := hp
                  refine W.eq (g2 := F0 m 114 ls []) rfl ?_
                  rw [e9] at hw
                  clear e9
                  have hw : pm_W z D cl_w (pm_up P35 q (.inr (1, [.int (hv 0 q), .int (hv 1 q), .int (hv 2 q), .int (hv 3 q), .int (hv 4 q), .ref (aw q), .int (hv 6 q), .int (hv 7 q), .int (hv 8 q), .int (hv 9 q + 1), va_rf (su_ct (ct q) (tv 2) q12 p2)]))) s.heap H _ := hw
                  obtain ⟨P42, eP42⟩ : ∃ pmv : pm_T, pmv = pm_up P35 q (.inr (1, [.int (hv 0 q), .int (hv 1 q), .int (hv 2 q), .int (hv 3 q), .int (hv 4 q), .ref (aw q), .int (hv 6 q), .int (hv 7 q), .int (hv 8 q), .int (hv 9 q + 1), va_rf (su_ct (ct q) (tv 2) q12 p2)])) := ⟨_, rfl⟩
                  rw [← eP42] at hw
                  have f43 : P42 aH = some (.inl (ac 3, 40, .inr (.inr (.inr (.inr fH))))) := by rw [eP42, pm_n (pm_ne f36 f37 (by simp))]; exact f36
                  have f44 : P42 (aw q) = some (.inl (ac 5, 3, .inr (.inr (.inr (.inr (fw q)))))) := by rw [eP42, pm_n (pm_ne f38 f37 (by simp))]; exact f38
                  have f45 : P42 q12 = some (.inr (2, [.int nt, .int p1, .int p2, .int p3, .int p4, .int p5])) := by rw [eP42, pm_n (pm_ne f39 f37 (by simp))]; exact f39
                  have f46 : P42 aT = some (.inl (ac 4, 100, .inr (.inr (.inr (.inr (va_up fT nt.toNatClampNeg (some q12))))))) := by rw [eP42, pm_n (pm_ne f40 f37 (by simp))]; exact f40
                  have f47 : P42 h0 = some (.inr (0, [.ref aH, .ref aT, .ref aL, .ref aK, .ref aW, .int nh, .int x34, .int al])) := by rw [eP42, pm_n (pm_ne f41 f37 (by simp))]; exact f41
                  have f48 : P42 q = some (.inr (1, [.int (hv 0 q), .int (hv 1 q), .int (hv 2 q), .int (hv 3 q), .int (hv 4 q), .ref (aw q), .int (hv 6 q), .int (hv 7 q), .int (hv 8 q), .int (hv 9 q + 1), va_rf (su_ct (ct q) (tv 2) q12 p2)])) := by rw [eP42]; exact pm_s
                  have frz : ∀ a : Nat, P a ≠ none → a ≠ h0 → a ≠ aT → a ≠ q → P42 a = P a := fun a h g0 g1 g2 => by rw [eP42, pm_n g2]; exact frP35 a h g0 g1
                  refine lv_iload hx hb dd_C_test_114 (lv_at hl 1 rfl) ?_
                  refine vx_ret (cx_iret (v := nt) hx hb hr rfl hlocks hw dd_C_test_116 (by decide) (by decide) ?_)
                  rw [ex34] at f47
                  exact ⟨⟨su_ne hkq, n2, n4, n6, n8, c9, ⟨c10, c11⟩, trivial⟩, rfl, q, q12, hkq, no_q12, f45, f46, f47, f48, frz⟩
                · skip
                  refine cx_thrS (E := xn_UOE) (text := "no room for one more test") hx hb hT (by rw [hml]; exact hl.1.symm) hown hg hK hw (by decide +kernel) gk_C_65 gn_UnsupportedOperationException xg_UOE xb_UOE xo_UOE (by decide +kernel) dd_C_test_62 dd_C_test_65 dd_C_test_66 dd_C_test_68 dd_C_test_71 hout ⟨by decide, Nat.le_of_ble_eq_true rfl, by decide, by decide⟩ hlocks (by decide) (by decide) ?_
                  exact ⟨rfl, Or.inr ⟨su_ne hkq, Or.inr ⟨n2, Or.inr ⟨n4, Or.inr ⟨n6, Or.inr ⟨n8, Or.inr ⟨c9, Or.inl ⟨fun h8 => c11 h8.2, rfl⟩⟩⟩⟩⟩⟩⟩⟩
            · skip
              refine cx_thrS (E := xn_ISE) (text := "more is left than at rest") hx hb hT (by rw [hml]; exact hl.1.symm) hown hg hK hw (by decide +kernel) gk_C_86 gn_IllegalStateException xg_ISE xb_ISE xo_ISE (by decide +kernel) dd_C_test_31 dd_C_test_34 dd_C_test_35 dd_C_test_37 dd_C_test_40 hout ⟨by decide, Nat.le_of_ble_eq_true rfl, by decide, by decide⟩ hlocks (by decide) (by decide) ?_
              exact ⟨rfl, Or.inr ⟨su_ne hkq, Or.inr ⟨n2, Or.inr ⟨n4, Or.inr ⟨n6, Or.inr ⟨n8, Or.inl ⟨c9, rfl⟩⟩⟩⟩⟩⟩⟩
