set_option maxHeartbeats 4000000 in
set_option maxRecDepth 100000 in
theorem c_C_supply (l : Launch) (hT : l.stackTraces = false) (z : Nat) (D : va_G) (ac : Nat → ClassId) (sa : Nat → Nat) (P : pm_T) (h0 aH aT aL aK aW : Nat) (nh nt al : Int32) (fH : Nat → Option Nat) (hv tv ov : Nat → Nat → Int32) (aw : Nat → Nat) (ct : Nat → Option Nat) (fw : Nat → Nat → Option Nat) (lm : Nat → Int32) (p1 p2 p3 p4 p5 : Int32) (fy : hy_W P ac fH hv tv ov aw ct fw) (f0 : P h0 = some (.inr (0, [.ref aH, .ref aT, .ref aL, .ref aK, .ref aW, .int nh, .int nt, .int al]))) (f1 : P aH = some (.inl (ac 3, 40, .inr (.inr (.inr (.inr fH)))))) (f2 : P aL = some (.inl (ac 0, 20, .inl lm))) : cx_V l yy_C_supply bb_C_supply 8 (some .int) ({ frames := 7, cells := 4, slots := 24, locals := 160 } : Room) z D ac sa P [.ref h0, .int p1, .int p2, .int p3, .int p4, .int p5] (fun v P' => su_al [(su_pl p1 p2, xn_IOB), (su_day p3, xn_IOB), (su_pr p4, xn_IOB), (su_hs p5, xn_IOB)] ∧ P' = P ∧ v = some (.int (su_all lm (fun k => su_sm fH (su_ok hv ov fw al (nI k) p1 p2 p3 p5) (fun q => su_gv (tv 3) (tv 4) (tv 5) (ct q) p4) 40) 20))) (fun E P' => P' = P ∧ su_xs [(su_pl p1 p2, xn_IOB), (su_day p3, xn_IOB), (su_pr p4, xn_IOB), (su_hs p5, xn_IOB)] E) := by
  refine cx_ofV (by decide) (Nat.le_of_ble_eq_true rfl) (fun p e s m below meth c ls hx hb hr hml hg hown hlocks hout hK hw hl => ?_)
  have hl : lv_has ls 8 [(0, .ref h0), (1, .int p1), (2, .int p2), (3, .int p3), (4, .int p4), (5, .int p5)] := hl
  have hown : s.vm.findClass cn_C = some m.cls := hown
  have lp : su_al [(su_pl p1 p2, xn_IOB), (su_day p3, xn_IOB), (su_pr p4, xn_IOB), (su_hs p5, xn_IOB)] → ∀ (n k : Nat), k + n = 20 → ∀ (sm : Int32) (H : Heap) (locs : List Loc) (ls : Array Slot), sm = su_all lm (fun k => su_sm fH (su_ok hv ov fw al (nI k) p1 p2 p3 p5) (fun q => su_gv (tv 3) (tv 4) (tv 5) (ct q) p4) 40) k → pm_W z D cl_w P s.heap H locs → lv_has ls 8 [(7, .int (nI k)), (6, .int sm), (0, .ref h0), (1, .int p1), (2, .int p2), (3, .int p3), (4, .int p4), (5, .int p5)] → W p l e ({ frames := 7, cells := 4, slots := 24, locals := 160 } : Room) s m ([.ref h0, .int p1, .int p2, .int p3, .int p4, .int p5] : List Value).toArray below meth c H locs 3 18 (vx_MQ below (cx_Q z D (fun v P' => su_al [(su_pl p1 p2, xn_IOB), (su_day p3, xn_IOB), (su_pr p4, xn_IOB), (su_hs p5, xn_IOB)] ∧ P' = P ∧ v = some (.int (su_all lm (fun k => su_sm fH (su_ok hv ov fw al (nI k) p1 p2 p3 p5) (fun q => su_gv (tv 3) (tv 4) (tv 5) (ct q) p4) 40) 20)))) (cx_X z D (fun E P' => P' = P ∧ su_xs [(su_pl p1 p2, xn_IOB), (su_day p3, xn_IOB), (su_pr p4, xn_IOB), (su_hs p5, xn_IOB)] E)) ([.ref h0, .int p1, .int p2, .int p3, .int p4, .int p5] : List Value).toArray s ({ frames := 7, cells := 4, slots := 24, locals := 160 } : Room).cells ({ frames := 7, cells := 4, slots := 24, locals := 160 } : Room).slots (pm_A z)) (F0 m 42 ls []) := by
    intro hpre n
    induction n with
    | zero =>
      intro k hk sm H locs ls esm hw hl
      have hk : k = 20 := by omega
      subst hk
      refine lv_iload hx hb dd_C_supply_42 (lv_at hl 0 rfl) ?_
      refine lv_aload_n hx hb dd_C_supply_44 rfl (lv_at hl 2 rfl) ?_
      refine pm_get (ci := 0) (C := cn_C) (T := cf_C) (N := 8) (v := .ref aL) hx hb hg gu_C hown hK.2.1 hw f0 rfl 2 (by decide) (hg _ gf_C_21) (fun _ h9 => h9) rfl dd_C_supply_45 ?_
      refine pm_alen (v := 20) hx hb hK.2.1 hw 0 f2 rfl rfl dd_C_supply_48 ?_
      refine lv_icmp_ge (tgt := 86) hx hb dd_C_supply_49 (by decide) (fun c1 => ?_) (fun c1 => absurd (nI_le (Nat.le_refl 20) (by decide)) c1)
      refine lv_iload hx hb dd_C_supply_86 (lv_at hl 1 rfl) ?_
      refine vx_ret (cx_iret (v := sm) hx hb hr rfl hlocks hw dd_C_supply_88 (by decide) (by decide) ?_)
      exact ⟨hpre, rfl, by rw [esm]⟩
    | succ n ih =>
      intro k hk sm H locs ls esm hw hl
      have hlt : k < 20 := by omega
      have hcl : (nI k).toNatClampNeg = k := nI_clamp (by omega)
      refine lv_iload hx hb dd_C_supply_42 (lv_at hl 0 rfl) ?_
      refine lv_aload_n hx hb dd_C_supply_44 rfl (lv_at hl 2 rfl) ?_
      refine pm_get (ci := 0) (C := cn_C) (T := cf_C) (N := 8) (v := .ref aL) hx hb hg gu_C hown hK.2.1 hw f0 rfl 2 (by decide) (hg _ gf_C_21) (fun _ h9 => h9) rfl dd_C_supply_45 ?_
      refine pm_alen (v := 20) hx hb hK.2.1 hw 0 f2 rfl rfl dd_C_supply_48 ?_
      refine lv_icmp_ge (tgt := 86) hx hb dd_C_supply_49 (by decide) (fun c2 => absurd c2 (nI_ge hlt (by decide))) (fun c2 => ?_)
      refine lv_iload hx hb dd_C_supply_52 (lv_at hl 1 rfl) ?_
      refine lv_aload_n hx hb dd_C_supply_54 rfl (lv_at hl 2 rfl) ?_
      refine lv_iload hx hb dd_C_supply_55 (lv_at hl 0 rfl) ?_
      refine lv_iload_n hx hb dd_C_supply_57 rfl (lv_at hl 3 rfl) ?_
      refine lv_iload_n hx hb dd_C_supply_58 rfl (lv_at hl 4 rfl) ?_
      refine lv_iload_n hx hb dd_C_supply_59 rfl (lv_at hl 5 rfl) ?_
      refine lv_iload hx hb dd_C_supply_60 (lv_at hl 6 rfl) ?_
      refine lv_iload hx hb dd_C_supply_62 (lv_at hl 7 rfl) ?_
      refine cx_after (cx_rV (n := 6) (As := [.int (nI k), .int p1, .int p2, .int p3, .int p4, .int p5]) (rest := [.int sm]) ⟨hx, hb, hml, hown, hg⟩ (c_C_supplyOfMain l z D ac sa P h0 aH aT aL aK aW nh nt al fH hv tv ov aw ct fw (nI k) p1 p2 p3 p4 p5 fy f0 f1) (cx_gv gm_C_197 gi_C_supplyOfMain gs_C_supplyOfMain gn_C gc_C_supplyOfMain) (by decide +kernel) ⟨by decide, by decide⟩ hK hw f0 rfl rfl hl.1 rfl (Nat.le_of_ble_eq_true rfl) dd_C_supply_64 ⟨by decide, by decide⟩) hw (fun v9 P9 H locs hp hw => ?_)
      obtain ⟨rfl, e9⟩ := hp
      rw [e9] at hw
      clear e9 P9
      refine W.eq (g2 := F0 m 67 ls [.int (su_sm fH (su_ok hv ov fw al (nI k) p1 p2 p3 p5) (fun q => su_gv (tv 3) (tv 4) (tv 5) (ct q) p4) 40), .int sm]) rfl ?_
      refine lv_aload_n hx hb dd_C_supply_67 rfl (lv_at hl 2 rfl) ?_
      refine pm_get (ci := 0) (C := cn_C) (T := cf_C) (N := 8) (v := .ref aL) hx hb hg gu_C hown hK.2.1 hw f0 rfl 2 (by decide) (hg _ gf_C_21) (fun _ h9 => h9) rfl dd_C_supply_68 ?_
      refine lv_iload hx hb dd_C_supply_71 (lv_at hl 0 rfl) ?_
      refine pm_iald hx hb hK.2.1 hw 0 f2 rfl (vp_in_nI hlt (by decide)) dd_C_supply_73 ?_
      refine va_mmin hx hb (by rw [hml]; exact hl.1.symm) hown (hg _ gm_C_129) (hg _ gt_N_min) (hg _ gn_Math) (hg _ gc_N_min) (Nat.le_of_ble_eq_true rfl) (Nat.le_of_ble_eq_true rfl) (Nat.le_of_ble_eq_true rfl) (Nat.le_of_ble_eq_true rfl) dd_C_supply_74 ?_
      refine lv_iadd hx hb dd_C_supply_77 ?_
      refine lv_topi (fun x3 ex3 => ?_)
      refine lv_istore (lv' := [(6, .int x3), (7, .int (nI k)), (0, .ref h0), (1, .int p1), (2, .int p2), (3, .int p3), (4, .int p4), (5, .int p5)]) hx hb dd_C_supply_78 hl (by decide) rfl (fun ls hl => ?_)
      obtain ⟨x4, ex4⟩ : ∃ y : Int32, y = (nI k) + 1 := ⟨_, rfl⟩
      refine lv_iinc (v := x4) (lv' := [(7, .int x4), (6, .int x3), (0, .ref h0), (1, .int p1), (2, .int p2), (3, .int p3), (4, .int p4), (5, .int p5)]) hx hb dd_C_supply_80 hl (k := 1) rfl (by rw [ex4]; rfl) (by decide) rfl (fun ls hl => ?_)
      refine lv_goto (tgt := 42) hx hb dd_C_supply_83 (by decide) ?_
      have hi : x4 = nI (k + 1) := by rw [ex4]; exact nI_1 k
      rw [hi] at hl
      exact ih (k + 1) (by omega) x3 H _ ls (by rw [ex3, esm, hcl]; rfl) hw (lv_sub hl [0, 1, 2, 3, 4, 5, 6, 7] rfl)
  refine lv_iload_n hx hb dd_C_supply_0 rfl (lv_at hl 1 rfl) ?_
  refine lv_iload_n hx hb dd_C_supply_1 rfl (lv_at hl 2 rfl) ?_
  refine cx_afterX (cx_rSX (n := 2) (As := [.int p1, .int p2]) (rest := []) ⟨hx, hb, hml, hown, hg⟩ (c_C_needPlace l hT z D ac sa P p1 p2) (cx_gs gm_C_61 gt_C_needPlace gn_C gc_C_needPlace) (by decide +kernel) ⟨by decide, by decide⟩ hK hw rfl hl.1 rfl (Nat.le_of_ble_eq_true rfl) dd_C_supply_2 ⟨by decide, by decide⟩) hw (fun E9 ce9 q9 P9 H locs hp hw hce hcv hcl => ?_) (fun v9 P9 H locs hp hw => ?_)
  · skip
    obtain ⟨rfl, e9, n5⟩ := hp
    rw [e9] at hw
    clear e9 P9
    refine cx_pass hout hlocks hce hcv hcl hw ?_ (by decide) (by decide)
    exact ⟨rfl, Or.inl ⟨n5, rfl⟩⟩
  · skip
    obtain ⟨rfl, e9, n6⟩ := hp
    rw [e9] at hw
    clear e9 P9
    refine W.eq (g2 := F0 m 5 ls []) rfl ?_
    refine lv_iload_n hx hb dd_C_supply_5 rfl (lv_at hl 3 rfl) ?_
    refine cx_afterX (cx_rSX (n := 1) (As := [.int p3]) (rest := []) ⟨hx, hb, hml, hown, hg⟩ (c_C_needDay l hT z D ac sa P p3) (cx_gs gm_C_80 gt_C_needDay gn_C gc_C_needDay) (by decide +kernel) ⟨by decide, by decide⟩ hK hw rfl hl.1 rfl (Nat.le_of_ble_eq_true rfl) dd_C_supply_6 ⟨by decide, by decide⟩) hw (fun E9 ce9 q9 P9 H locs hp hw hce hcv hcl => ?_) (fun v9 P9 H locs hp hw => ?_)
    · skip
      obtain ⟨rfl, e9, n7⟩ := hp
      rw [e9] at hw
      clear e9 P9
      refine cx_pass hout hlocks hce hcv hcl hw ?_ (by decide) (by decide)
      exact ⟨rfl, Or.inr ⟨n6, Or.inl ⟨n7, rfl⟩⟩⟩
    · skip
      obtain ⟨rfl, e9, n8⟩ := hp
      rw [e9] at hw
      clear e9 P9
      refine W.eq (g2 := F0 m 9 ls []) rfl ?_
      refine lv_iload hx hb dd_C_supply_9 (lv_at hl 4 rfl) ?_
      refine cx_afterX (cx_rSX (n := 1) (As := [.int p4]) (rest := []) ⟨hx, hb, hml, hown, hg⟩ (c_C_needPressure l hT z D ac sa P p4) (cx_gs gm_C_83 gt_C_needPressure gn_C gc_C_needPressure) (by decide +kernel) ⟨by decide, by decide⟩ hK hw rfl hl.1 rfl (Nat.le_of_ble_eq_true rfl) dd_C_supply_11 ⟨by decide, by decide⟩) hw (fun E9 ce9 q9 P9 H locs hp hw hce hcv hcl => ?_) (fun v9 P9 H locs hp hw => ?_)
      · skip
        obtain ⟨rfl, e9, n9⟩ := hp
        rw [e9] at hw
        clear e9 P9
        refine cx_pass hout hlocks hce hcv hcl hw ?_ (by decide) (by decide)
        exact ⟨rfl, Or.inr ⟨n6, Or.inr ⟨n8, Or.inl ⟨n9, rfl⟩⟩⟩⟩
      · skip
        obtain ⟨rfl, e9, n10⟩ := hp
        rw [e9] at hw
        clear e9 P9
        refine W.eq (g2 := F0 m 14 ls []) rfl ?_
        refine lv_iload hx hb dd_C_supply_14 (lv_at hl 5 rfl) ?_
        refine lv_if_lt (tgt := 26) hx hb dd_C_supply_16 (by decide) (fun c11 => ?_) (fun c11 => ?_)
        · skip
          refine cx_thrS (E := xn_IOB) (text := "no such hose") hx hb hT (by rw [hml]; exact hl.1.symm) hown hg hK hw (by decide +kernel) gk_C_132 gn_IndexOutOfBoundsException xg_IOB xb_IOB xo_IOB (by decide +kernel) dd_C_supply_26 dd_C_supply_29 dd_C_supply_30 dd_C_supply_32 dd_C_supply_35 hout ⟨by decide, Nat.le_of_ble_eq_true rfl, by decide, by decide⟩ hlocks (by decide) (by decide) ?_
          exact ⟨rfl, Or.inr ⟨n6, Or.inr ⟨n8, Or.inr ⟨n10, Or.inl ⟨fun h8 => h8.1 c11, rfl⟩⟩⟩⟩⟩
        · skip
          refine lv_iload hx hb dd_C_supply_19 (lv_at hl 5 rfl) ?_
          refine lv_ldc (v := (200000)) hx hb hown (hg _ gq_C_194) dd_C_supply_21 ?_
          refine lv_icmp_le (tgt := 36) hx hb dd_C_supply_23 (by decide) (fun c12 => ?_) (fun c12 => ?_)
          · skip
            refine lv_iconst (v := 0) hx hb dd_C_supply_36 (by decide) ?_
            refine lv_istore (lv' := [(6, .int (0 : Int32)), (0, .ref h0), (1, .int p1), (2, .int p2), (3, .int p3), (4, .int p4), (5, .int p5)]) hx hb dd_C_supply_37 hl (by decide) rfl (fun ls hl => ?_)
            refine lv_iconst (v := 0) hx hb dd_C_supply_39 (by decide) ?_
            refine lv_istore (lv' := [(7, .int (0 : Int32)), (6, .int (0 : Int32)), (0, .ref h0), (1, .int p1), (2, .int p2), (3, .int p3), (4, .int p4), (5, .int p5)]) hx hb dd_C_supply_40 hl (by decide) rfl (fun ls hl => ?_)
            exact lp ⟨n6, n8, n10, ⟨c11, c12⟩, trivial⟩ 20 0 (by decide) 0 _ _ ls rfl hw (lv_sub hl [0, 1, 2, 3, 4, 5, 6, 7] rfl)
          · skip
            refine cx_thrS (E := xn_IOB) (text := "no such hose") hx hb hT (by rw [hml]; exact hl.1.symm) hown hg hK hw (by decide +kernel) gk_C_132 gn_IndexOutOfBoundsException xg_IOB xb_IOB xo_IOB (by decide +kernel) dd_C_supply_26 dd_C_supply_29 dd_C_supply_30 dd_C_supply_32 dd_C_supply_35 hout ⟨by decide, Nat.le_of_ble_eq_true rfl, by decide, by decide⟩ hlocks (by decide) (by decide) ?_
            exact ⟨rfl, Or.inr ⟨n6, Or.inr ⟨n8, Or.inr ⟨n10, Or.inl ⟨fun h8 => c12 h8.2, rfl⟩⟩⟩⟩⟩

set_option maxHeartbeats 4000000 in
set_option maxRecDepth 100000 in
theorem c_C_init (l : Launch) (z : Nat) (D : va_G) (ac : Nat → ClassId) (sa : Nat → Nat) (P : pm_T) (h0 : Nat) (f0 : P h0 = some (.inr (0, [.null, .null, .null, .null, .null, .int 0, .int 0, .int 0]))) : cx_M l yy_C_init bb_C_init 2 none ({ frames := 2, cells := 9, slots := 225, locals := 60 } : Room) z D ac sa P [.ref h0] (fun v P' => v = none ∧ ∃ aH aT aL aK aW ak aC aY aB : Nat, ∃ lm : Nat → Int32, (∀ j, j < 20 → lm j = 20000) ∧ (P aH = none ∧ P aT = none ∧ P aL = none ∧ P aK = none ∧ P aW = none ∧ P ak = none ∧ P aC = none ∧ P aY = none ∧ P aB = none) ∧ aY ≠ aB ∧ P' h0 = some (.inr (0, [.ref aH, .ref aT, .ref aL, .ref aK, .ref aW, .int 0, .int 0, .int 0])) ∧ P' aH = some (.inl (ac 3, 40, .inr (.inr (.inr (.inr (fun _ => none)))))) ∧ P' aT = some (.inl (ac 4, 100, .inr (.inr (.inr (.inr (fun _ => none)))))) ∧ P' aL = some (.inl (ac 0, 20, .inl lm)) ∧ P' aK = some (.inr (4, [.ref ak, .int 0])) ∧ P' ak = some (.inl (ac 0, 40, .inl (fun _ => 0))) ∧ P' aW = some (.inr (5, [.ref aC, .ref aY, .ref aB, .int 0, .int 0])) ∧ P' aC = some (.inl (ac 3, 6, .inr (.inr (.inr (.inr (fun _ => none)))))) ∧ P' aY = some (.inl (ac 0, 6, .inl (fun _ => 0))) ∧ P' aB = some (.inl (ac 0, 6, .inl (fun _ => 0))) ∧ ∀ a : Nat, P a ≠ none → a ≠ h0 → P' a = P a) := by
  refine cx_ofM (by decide) (Nat.le_of_ble_eq_true rfl) (fun p e s m below meth c ls hx hb hr hml hg hown hlocks hin hK hw hl => ?_)
  have hl : lv_has ls 2 [(0, .ref h0)] := hl
  have hown : s.vm.findClass cn_C = some m.cls := hown
  refine lv_aload_n hx hb dd_C_init_0 rfl (lv_at hl 0 rfl) ?_
  refine W.objInit hx hb hown (hg _ gm_C_3) (hg _ gi_objectInit) (hg _ gc_objectInit) rfl (by rw [hml]; exact hl.1) rfl dd_C_init_1 (Nat.le_of_ble_eq_true rfl) (Nat.le_of_ble_eq_true rfl) ?_
  refine W.eq (g2 := F0 m 4 ls []) rfl ?_
  refine lv_aload_n hx hb dd_C_init_4 rfl (lv_at hl 0 rfl) ?_
  refine lv_bipush (v := 40) hx hb dd_C_init_5 (by decide) ?_
  refine pm_newq (N' := 40) hx hb hown (hg _ gk_C_9) (hK.2.2.2.2.2.2 _ (by decide +kernel)) hK.2.1 hw 3 rfl (by decide) (by decide) (by decide) (Nat.le_of_ble_eq_true rfl) (Nat.le_of_ble_eq_true rfl) dd_C_init_7 (fun q1 H hnq1 hw => ?_)
  have hw : pm_W z D cl_w (pm_up P q1 (.inl (ac 3, 40, .inr (.inr (.inr (.inr (fun _ => none))))))) s.heap H _ := hw
  obtain ⟨P2, eP2⟩ : ∃ pmv : pm_T, pmv = pm_up P q1 (.inl (ac 3, 40, .inr (.inr (.inr (.inr (fun _ => none)))))) := ⟨_, rfl⟩
  rw [← eP2] at hw
  have f3 : P2 h0 = some (.inr (0, [.null, .null, .null, .null, .null, .int 0, .int 0, .int 0])) := by rw [eP2, pm_n (pm_nx f0 hnq1)]; exact f0
  have f4 : P2 q1 = some (.inl (ac 3, 40, .inr (.inr (.inr (.inr (fun _ => none)))))) := by rw [eP2]; exact pm_s
  have no_q1 : P q1 = none := hnq1
  have frP2 : ∀ a : Nat, P a ≠ none → a ≠ h0 → P2 a = P a := fun a h g0 => by rw [eP2, pm_n (fun e9 => h (by rw [e9]; exact hnq1))]
  refine pm_putF (ci := 0) (v := .ref q1) (ty := .array (.object "HydrantRows$Hydrant")) (C := cn_C) (T := cf_C) (N := 8) hx hb hg gu_C ct_C co_C cm_C hown hK.2.1 hw f3 rfl 0 (by decide) (hg _ gf_C_11) (fun _ h9 => h9) rfl hin rfl (by decide +kernel) rfl rfl (Nat.le_of_ble_eq_true rfl) dd_C_init_10 (fun H locs hw => ?_)
  have hw : pm_W z D cl_w (pm_up P2 h0 (.inr (0, [.ref q1, .null, .null, .null, .null, .int 0, .int 0, .int 0]))) s.heap H _ := hw
  obtain ⟨P5, eP5⟩ : ∃ pmv : pm_T, pmv = pm_up P2 h0 (.inr (0, [.ref q1, .null, .null, .null, .null, .int 0, .int 0, .int 0])) := ⟨_, rfl⟩
  rw [← eP5] at hw
  have f6 : P5 q1 = some (.inl (ac 3, 40, .inr (.inr (.inr (.inr (fun _ => none)))))) := by rw [eP5, pm_n (pm_ne f4 f3 (by simp))]; exact f4
  have f7 : P5 h0 = some (.inr (0, [.ref q1, .null, .null, .null, .null, .int 0, .int 0, .int 0])) := by rw [eP5]; exact pm_s
  have frP5 : ∀ a : Nat, P a ≠ none → a ≠ h0 → P5 a = P a := fun a h g0 => by rw [eP5, pm_n g0]; exact (frP2 a h g0)
  refine lv_aload_n hx hb dd_C_init_13 rfl (lv_at hl 0 rfl) ?_
  refine lv_bipush (v := 100) hx hb dd_C_init_14 (by decide) ?_
  refine pm_newq (N' := 100) hx hb hown (hg _ gk_C_15) (hK.2.2.2.2.2.2 _ (by decide +kernel)) hK.2.1 hw 4 rfl (by decide) (by decide) (by decide) (Nat.le_of_ble_eq_true rfl) (Nat.le_of_ble_eq_true rfl) dd_C_init_16 (fun q8 H hnq8 hw => ?_)
  have hw : pm_W z D cl_w (pm_up P5 q8 (.inl (ac 4, 100, .inr (.inr (.inr (.inr (fun _ => none))))))) s.heap H _ := hw
  obtain ⟨P9, eP9⟩ : ∃ pmv : pm_T, pmv = pm_up P5 q8 (.inl (ac 4, 100, .inr (.inr (.inr (.inr (fun _ => none)))))) := ⟨_, rfl⟩
  rw [← eP9] at hw
  have f10 : P9 q1 = some (.inl (ac 3, 40, .inr (.inr (.inr (.inr (fun _ => none)))))) := by rw [eP9, pm_n (pm_nx f6 hnq8)]; exact f6
  have f11 : P9 h0 = some (.inr (0, [.ref q1, .null, .null, .null, .null, .int 0, .int 0, .int 0])) := by rw [eP9, pm_n (pm_nx f7 hnq8)]; exact f7
  have f12 : P9 q8 = some (.inl (ac 4, 100, .inr (.inr (.inr (.inr (fun _ => none)))))) := by rw [eP9]; exact pm_s
  have no_q8 : P q8 = none := Classical.byContradiction (fun h => h ((frP5 q8 h (pm_nx f7 hnq8).symm).symm.trans hnq8))
  have ne_q1_q8 : q1 ≠ q8 := pm_nx f6 hnq8
  have frP9 : ∀ a : Nat, P a ≠ none → a ≠ h0 → P9 a = P a := fun a h g0 => by rw [eP9, pm_n (fun e9 => h ((frP5 a h g0).symm.trans (by rw [e9]; exact hnq8)))]; exact (frP5 a h g0)
  refine pm_putF (ci := 0) (v := .ref q8) (ty := .array (.object "HydrantRows$Test")) (C := cn_C) (T := cf_C) (N := 8) hx hb hg gu_C ct_C co_C cm_C hown hK.2.1 hw f11 rfl 1 (by decide) (hg _ gf_C_17) (fun _ h9 => h9) rfl hin rfl (by decide +kernel) rfl rfl (Nat.le_of_ble_eq_true rfl) dd_C_init_19 (fun H locs hw => ?_)
  have hw : pm_W z D cl_w (pm_up P9 h0 (.inr (0, [.ref q1, .ref q8, .null, .null, .null, .int 0, .int 0, .int 0]))) s.heap H _ := hw
  obtain ⟨P13, eP13⟩ : ∃ pmv : pm_T, pmv = pm_up P9 h0 (.inr (0, [.ref q1, .ref q8, .null, .null, .null, .int 0, .int 0, .int 0])) := ⟨_, rfl⟩
  rw [← eP13] at hw
  have f14 : P13 q1 = some (.inl (ac 3, 40, .inr (.inr (.inr (.inr (fun _ => none)))))) := by rw [eP13, pm_n (pm_ne f10 f11 (by simp))]; exact f10
  have f15 : P13 q8 = some (.inl (ac 4, 100, .inr (.inr (.inr (.inr (fun _ => none)))))) := by rw [eP13, pm_n (pm_ne f12 f11 (by simp))]; exact f12
  have f16 : P13 h0 = some (.inr (0, [.ref q1, .ref q8, .null, .null, .null, .int 0, .int 0, .int 0])) := by rw [eP13]; exact pm_s
  have frP13 : ∀ a : Nat, P a ≠ none → a ≠ h0 → P13 a = P a := fun a h g0 => by rw [eP13, pm_n g0]; exact (frP9 a h g0)
  refine lv_aload_n hx hb dd_C_init_22 rfl (lv_at hl 0 rfl) ?_
  refine lv_bipush (v := 20) hx hb dd_C_init_23 (by decide) ?_
  refine pm_newa (atype := .int) (N' := 20) (ty := .int) (a0 := (20, .inl (fun _ => 0))) hx hb (hg _ gar_int) rfl hK.2.1 hw 0 rfl (fun _ => rfl) (by decide) (by decide) (by decide) (Nat.le_of_ble_eq_true rfl) (Nat.le_of_ble_eq_true rfl) dd_C_init_25 (fun q17 H hnq17 hw => ?_)
  have hw : pm_W z D cl_w (pm_up P13 q17 (.inl (ac 0, 20, .inl (fun _ => 0)))) s.heap H _ := hw
  obtain ⟨P18, eP18⟩ : ∃ pmv : pm_T, pmv = pm_up P13 q17 (.inl (ac 0, 20, .inl (fun _ => 0))) := ⟨_, rfl⟩
  rw [← eP18] at hw
  have f19 : P18 q1 = some (.inl (ac 3, 40, .inr (.inr (.inr (.inr (fun _ => none)))))) := by rw [eP18, pm_n (pm_nx f14 hnq17)]; exact f14
  have f20 : P18 q8 = some (.inl (ac 4, 100, .inr (.inr (.inr (.inr (fun _ => none)))))) := by rw [eP18, pm_n (pm_nx f15 hnq17)]; exact f15
  have f21 : P18 h0 = some (.inr (0, [.ref q1, .ref q8, .null, .null, .null, .int 0, .int 0, .int 0])) := by rw [eP18, pm_n (pm_nx f16 hnq17)]; exact f16
  have f22 : P18 q17 = some (.inl (ac 0, 20, .inl (fun _ => 0))) := by rw [eP18]; exact pm_s
  have no_q17 : P q17 = none := Classical.byContradiction (fun h => h ((frP13 q17 h (pm_nx f16 hnq17).symm).symm.trans hnq17))
  have ne_q1_q17 : q1 ≠ q17 := pm_nx f14 hnq17
  have ne_q8_q17 : q8 ≠ q17 := pm_nx f15 hnq17
  have frP18 : ∀ a : Nat, P a ≠ none → a ≠ h0 → P18 a = P a := fun a h g0 => by rw [eP18, pm_n (fun e9 => h ((frP13 a h g0).symm.trans (by rw [e9]; exact hnq17)))]; exact (frP13 a h g0)
  refine pm_putF (ci := 0) (v := .ref q17) (ty := .array .int) (C := cn_C) (T := cf_C) (N := 8) hx hb hg gu_C ct_C co_C cm_C hown hK.2.1 hw f21 rfl 2 (by decide) (hg _ gf_C_21) (fun _ h9 => h9) rfl hin rfl (by decide +kernel) rfl rfl (Nat.le_of_ble_eq_true rfl) dd_C_init_27 (fun H locs hw => ?_)
  have hw : pm_W z D cl_w (pm_up P18 h0 (.inr (0, [.ref q1, .ref q8, .ref q17, .null, .null, .int 0, .int 0, .int 0]))) s.heap H _ := hw
  obtain ⟨P23, eP23⟩ : ∃ pmv : pm_T, pmv = pm_up P18 h0 (.inr (0, [.ref q1, .ref q8, .ref q17, .null, .null, .int 0, .int 0, .int 0])) := ⟨_, rfl⟩
  rw [← eP23] at hw
  have f24 : P23 q1 = some (.inl (ac 3, 40, .inr (.inr (.inr (.inr (fun _ => none)))))) := by rw [eP23, pm_n (pm_ne f19 f21 (by simp))]; exact f19
  have f25 : P23 q8 = some (.inl (ac 4, 100, .inr (.inr (.inr (.inr (fun _ => none)))))) := by rw [eP23, pm_n (pm_ne f20 f21 (by simp))]; exact f20
  have f26 : P23 q17 = some (.inl (ac 0, 20, .inl (fun _ => 0))) := by rw [eP23, pm_n (pm_ne f22 f21 (by simp))]; exact f22
  have f27 : P23 h0 = some (.inr (0, [.ref q1, .ref q8, .ref q17, .null, .null, .int 0, .int 0, .int 0])) := by rw [eP23]; exact pm_s
  have frP23 : ∀ a : Nat, P a ≠ none → a ≠ h0 → P23 a = P a := fun a h g0 => by rw [eP23, pm_n g0]; exact (frP18 a h g0)
  refine lv_aload_n hx hb dd_C_init_30 rfl (lv_at hl 0 rfl) ?_
  refine pm_new (ci := 4) (fs := [.null, .int 0]) (C := cn_K) (T := cf_K) (N := 2) hx hb hg gu_K ct_K co_K hown (hg _ gk_C_25) (hg _ gx_K) (hg _ gn_K) hK.2.1 hw rfl (by decide +kernel) (Nat.le_of_ble_eq_true rfl) (Nat.le_of_ble_eq_true rfl) dd_C_init_31 (fun q28 H hnq28 hw => ?_)
  have hw : pm_W z D cl_w (pm_up P23 q28 (.inr (4, [.null, .int 0]))) s.heap H _ := hw
  obtain ⟨P29, eP29⟩ : ∃ pmv : pm_T, pmv = pm_up P23 q28 (.inr (4, [.null, .int 0])) := ⟨_, rfl⟩
  rw [← eP29] at hw
  have f30 : P29 q1 = some (.inl (ac 3, 40, .inr (.inr (.inr (.inr (fun _ => none)))))) := by rw [eP29, pm_n (pm_nx f24 hnq28)]; exact f24
  have f31 : P29 q8 = some (.inl (ac 4, 100, .inr (.inr (.inr (.inr (fun _ => none)))))) := by rw [eP29, pm_n (pm_nx f25 hnq28)]; exact f25
  have f32 : P29 q17 = some (.inl (ac 0, 20, .inl (fun _ => 0))) := by rw [eP29, pm_n (pm_nx f26 hnq28)]; exact f26
  have f33 : P29 h0 = some (.inr (0, [.ref q1, .ref q8, .ref q17, .null, .null, .int 0, .int 0, .int 0])) := by rw [eP29, pm_n (pm_nx f27 hnq28)]; exact f27
  have f34 : P29 q28 = some (.inr (4, [.null, .int 0])) := by rw [eP29]; exact pm_s
  have no_q28 : P q28 = none := Classical.byContradiction (fun h => h ((frP23 q28 h (pm_nx f27 hnq28).symm).symm.trans hnq28))
  have ne_q1_q28 : q1 ≠ q28 := pm_nx f24 hnq28
  have ne_q8_q28 : q8 ≠ q28 := pm_nx f25 hnq28
  have ne_q17_q28 : q17 ≠ q28 := pm_nx f26 hnq28
  have frP29 : ∀ a : Nat, P a ≠ none → a ≠ h0 → P29 a = P a := fun a h g0 => by rw [eP29, pm_n (fun e9 => h ((frP23 a h g0).symm.trans (by rw [e9]; exact hnq28)))]; exact (frP23 a h g0)
  refine lv_dup hx hb dd_C_init_34 rfl ?_
  refine cx_after (cx_rIN (host := "HydrantRows") (n := 0) (As := []) (rest := [.ref q28, .ref h0]) ⟨hx, hb, hml, hown, hg⟩ (c_K_init l z D ac sa P29 q28 f34) gc_K_init (by decide +kernel) gi_K_init gn_K rfl (by decide +kernel) ⟨by decide, by decide⟩ hK hw rfl hl.1 rfl (Nat.le_of_ble_eq_true rfl) dd_C_init_35 ⟨by decide, by decide⟩) hw (fun v9 P9 H locs hp hw => ?_)
  obtain ⟨rfl, qa35, hnqa35, e9⟩ := hp
  refine W.eq (g2 := F0 m 38 ls [.ref q28, .ref h0]) rfl ?_
  obtain ⟨P36, eP36⟩ : ∃ pmv : pm_T, pmv = pm_up P29 qa35 (.inl (ac 0, 40, .inl (fun _ => 0))) := ⟨_, rfl⟩
  have f37 : P36 q1 = some (.inl (ac 3, 40, .inr (.inr (.inr (.inr (fun _ => none)))))) := by rw [eP36, pm_n (pm_nx f30 hnqa35)]; exact f30
  have f38 : P36 q8 = some (.inl (ac 4, 100, .inr (.inr (.inr (.inr (fun _ => none)))))) := by rw [eP36, pm_n (pm_nx f31 hnqa35)]; exact f31
  have f39 : P36 q17 = some (.inl (ac 0, 20, .inl (fun _ => 0))) := by rw [eP36, pm_n (pm_nx f32 hnqa35)]; exact f32
  have f40 : P36 h0 = some (.inr (0, [.ref q1, .ref q8, .ref q17, .null, .null, .int 0, .int 0, .int 0])) := by rw [eP36, pm_n (pm_nx f33 hnqa35)]; exact f33
  have f41 : P36 q28 = some (.inr (4, [.null, .int 0])) := by rw [eP36, pm_n (pm_nx f34 hnqa35)]; exact f34
  have f42 : P36 qa35 = some (.inl (ac 0, 40, .inl (fun _ => 0))) := by rw [eP36]; exact pm_s
  have no_qa35 : P qa35 = none := Classical.byContradiction (fun h => h ((frP29 qa35 h (pm_nx f33 hnqa35).symm).symm.trans hnqa35))
  have ne_q1_qa35 : q1 ≠ qa35 := pm_nx f30 hnqa35
  have ne_q8_qa35 : q8 ≠ qa35 := pm_nx f31 hnqa35
  have ne_q17_qa35 : q17 ≠ qa35 := pm_nx f32 hnqa35
  have ne_q28_qa35 : q28 ≠ qa35 := pm_nx f34 hnqa35
  have frP36 : ∀ a : Nat, P a ≠ none → a ≠ h0 → P36 a = P a := fun a h g0 => by rw [eP36, pm_n (fun e9 => h ((frP29 a h g0).symm.trans (by rw [e9]; exact hnqa35)))]; exact (frP29 a h g0)
  rw [e9, ← eP36] at hw
  clear e9
  have hw : pm_W z D cl_w (pm_up P36 q28 (.inr (4, [.ref qa35, .int 0]))) s.heap H _ := hw
  obtain ⟨P43, eP43⟩ : ∃ pmv : pm_T, pmv = pm_up P36 q28 (.inr (4, [.ref qa35, .int 0])) := ⟨_, rfl⟩
  rw [← eP43] at hw
  have f44 : P43 q1 = some (.inl (ac 3, 40, .inr (.inr (.inr (.inr (fun _ => none)))))) := by rw [eP43, pm_n (pm_ne f37 f41 (by simp))]; exact f37
  have f45 : P43 q8 = some (.inl (ac 4, 100, .inr (.inr (.inr (.inr (fun _ => none)))))) := by rw [eP43, pm_n (pm_ne f38 f41 (by simp))]; exact f38
  have f46 : P43 q17 = some (.inl (ac 0, 20, .inl (fun _ => 0))) := by rw [eP43, pm_n (pm_ne f39 f41 (by simp))]; exact f39
  have f47 : P43 h0 = some (.inr (0, [.ref q1, .ref q8, .ref q17, .null, .null, .int 0, .int 0, .int 0])) := by rw [eP43, pm_n (pm_ne f40 f41 (by simp))]; exact f40
  have f48 : P43 qa35 = some (.inl (ac 0, 40, .inl (fun _ => 0))) := by rw [eP43, pm_n (pm_ne f42 f41 (by simp))]; exact f42
  have f49 : P43 q28 = some (.inr (4, [.ref qa35, .int 0])) := by rw [eP43]; exact pm_s
  have frP43 : ∀ a : Nat, P a ≠ none → a ≠ h0 → P43 a = P a := fun a h g0 => by rw [eP43, pm_n (fun e9 => h (by rw [e9]; exact no_q28))]; exact (frP36 a h g0)
  refine pm_putF (ci := 0) (v := .ref q28) (ty := .object "HydrantRows$Ranking") (C := cn_C) (T := cf_C) (N := 8) hx hb hg gu_C ct_C co_C cm_C hown hK.2.1 hw f47 rfl 3 (by decide) (hg _ gf_C_28) (fun _ h9 => h9) rfl hin rfl (by decide +kernel) rfl rfl (Nat.le_of_ble_eq_true rfl) dd_C_init_38 (fun H locs hw => ?_)
  have hw : pm_W z D cl_w (pm_up P43 h0 (.inr (0, [.ref q1, .ref q8, .ref q17, .ref q28, .null, .int 0, .int 0, .int 0]))) s.heap H _ := hw
  obtain ⟨P50, eP50⟩ : ∃ pmv : pm_T, pmv = pm_up P43 h0 (.inr (0, [.ref q1, .ref q8, .ref q17, .ref q28, .null, .int 0, .int 0, .int 0])) := ⟨_, rfl⟩
  rw [← eP50] at hw
  have f51 : P50 q1 = some (.inl (ac 3, 40, .inr (.inr (.inr (.inr (fun _ => none)))))) := by rw [eP50, pm_n (pm_ne f44 f47 (by simp))]; exact f44
  have f52 : P50 q8 = some (.inl (ac 4, 100, .inr (.inr (.inr (.inr (fun _ => none)))))) := by rw [eP50, pm_n (pm_ne f45 f47 (by simp))]; exact f45
  have f53 : P50 q17 = some (.inl (ac 0, 20, .inl (fun _ => 0))) := by rw [eP50, pm_n (pm_ne f46 f47 (by simp))]; exact f46
  have f54 : P50 qa35 = some (.inl (ac 0, 40, .inl (fun _ => 0))) := by rw [eP50, pm_n (pm_ne f48 f47 (by simp))]; exact f48
  have f55 : P50 q28 = some (.inr (4, [.ref qa35, .int 0])) := by rw [eP50, pm_n (pm_ne f49 f47 (by simp))]; exact f49
  have f56 : P50 h0 = some (.inr (0, [.ref q1, .ref q8, .ref q17, .ref q28, .null, .int 0, .int 0, .int 0])) := by rw [eP50]; exact pm_s
  have frP50 : ∀ a : Nat, P a ≠ none → a ≠ h0 → P50 a = P a := fun a h g0 => by rw [eP50, pm_n g0]; exact (frP43 a h g0)
  refine lv_aload_n hx hb dd_C_init_41 rfl (lv_at hl 0 rfl) ?_
  refine pm_new (ci := 5) (fs := [.null, .null, .null, .int 0, .int 0]) (C := cn_A) (T := cf_A) (N := 5) hx hb hg gu_A ct_A co_A hown (hg _ gk_C_32) (hg _ gx_A) (hg _ gn_A) hK.2.1 hw rfl (by decide +kernel) (Nat.le_of_ble_eq_true rfl) (Nat.le_of_ble_eq_true rfl) dd_C_init_42 (fun q57 H hnq57 hw => ?_)
  have hw : pm_W z D cl_w (pm_up P50 q57 (.inr (5, [.null, .null, .null, .int 0, .int 0]))) s.heap H _ := hw
  obtain ⟨P58, eP58⟩ : ∃ pmv : pm_T, pmv = pm_up P50 q57 (.inr (5, [.null, .null, .null, .int 0, .int 0])) := ⟨_, rfl⟩
  rw [← eP58] at hw
  have f59 : P58 q1 = some (.inl (ac 3, 40, .inr (.inr (.inr (.inr (fun _ => none)))))) := by rw [eP58, pm_n (pm_nx f51 hnq57)]; exact f51
  have f60 : P58 q8 = some (.inl (ac 4, 100, .inr (.inr (.inr (.inr (fun _ => none)))))) := by rw [eP58, pm_n (pm_nx f52 hnq57)]; exact f52
  have f61 : P58 q17 = some (.inl (ac 0, 20, .inl (fun _ => 0))) := by rw [eP58, pm_n (pm_nx f53 hnq57)]; exact f53
  have f62 : P58 qa35 = some (.inl (ac 0, 40, .inl (fun _ => 0))) := by rw [eP58, pm_n (pm_nx f54 hnq57)]; exact f54
  have f63 : P58 q28 = some (.inr (4, [.ref qa35, .int 0])) := by rw [eP58, pm_n (pm_nx f55 hnq57)]; exact f55
  have f64 : P58 h0 = some (.inr (0, [.ref q1, .ref q8, .ref q17, .ref q28, .null, .int 0, .int 0, .int 0])) := by rw [eP58, pm_n (pm_nx f56 hnq57)]; exact f56
  have f65 : P58 q57 = some (.inr (5, [.null, .null, .null, .int 0, .int 0])) := by rw [eP58]; exact pm_s
  have no_q57 : P q57 = none := Classical.byContradiction (fun h => h ((frP50 q57 h (pm_nx f56 hnq57).symm).symm.trans hnq57))
  have ne_q1_q57 : q1 ≠ q57 := pm_nx f51 hnq57
  have ne_q8_q57 : q8 ≠ q57 := pm_nx f52 hnq57
  have ne_q17_q57 : q17 ≠ q57 := pm_nx f53 hnq57
  have ne_q28_q57 : q28 ≠ q57 := pm_nx f55 hnq57
  have ne_qa35_q57 : qa35 ≠ q57 := pm_nx f54 hnq57
  have frP58 : ∀ a : Nat, P a ≠ none → a ≠ h0 → P58 a = P a := fun a h g0 => by rw [eP58, pm_n (fun e9 => h ((frP50 a h g0).symm.trans (by rw [e9]; exact hnq57)))]; exact (frP50 a h g0)
  refine lv_dup hx hb dd_C_init_45 rfl ?_
  refine cx_after (cx_rIN (host := "HydrantRows") (n := 0) (As := []) (rest := [.ref q57, .ref h0]) ⟨hx, hb, hml, hown, hg⟩ (c_A_init l z D ac sa P58 q57 f65) gc_A_init (by decide +kernel) gi_A_init gn_A rfl (by decide +kernel) ⟨by decide, by decide⟩ hK hw rfl hl.1 rfl (Nat.le_of_ble_eq_true rfl) dd_C_init_46 ⟨by decide, by decide⟩) hw (fun v9 P9 H locs hp hw => ?_)
  obtain ⟨rfl, w1, w2, w3, ⟨nw1, nw2, nw3, w23⟩, gw0, gw1, gw2, gw3, fr9⟩ := hp
  refine W.eq (g2 := F0 m 49 ls [.ref q57, .ref h0]) rfl ?_
  have f66 : P9 q1 = some (.inl (ac 3, 40, .inr (.inr (.inr (.inr (fun _ => none)))))) := (fr9 q1 (by rw [f59]; exact fun h => nomatch h) (pm_ne f59 f65 (by simp))).trans f59
  have f67 : P9 q8 = some (.inl (ac 4, 100, .inr (.inr (.inr (.inr (fun _ => none)))))) := (fr9 q8 (by rw [f60]; exact fun h => nomatch h) (pm_ne f60 f65 (by simp))).trans f60
  have f68 : P9 q17 = some (.inl (ac 0, 20, .inl (fun _ => 0))) := (fr9 q17 (by rw [f61]; exact fun h => nomatch h) (pm_ne f61 f65 (by simp))).trans f61
  have f69 : P9 qa35 = some (.inl (ac 0, 40, .inl (fun _ => 0))) := (fr9 qa35 (by rw [f62]; exact fun h => nomatch h) (pm_ne f62 f65 (by simp))).trans f62
  have f70 : P9 q28 = some (.inr (4, [.ref qa35, .int 0])) := (fr9 q28 (by rw [f63]; exact fun h => nomatch h) (pm_ne f63 f65 (by simp))).trans f63
  have f71 : P9 h0 = some (.inr (0, [.ref q1, .ref q8, .ref q17, .ref q28, .null, .int 0, .int 0, .int 0])) := (fr9 h0 (by rw [f64]; exact fun h => nomatch h) (pm_ne f64 f65 (by simp))).trans f64
  have no_w1 : P w1 = none := Classical.byContradiction (fun h => h ((frP58 w1 h (pm_nx f64 nw1).symm).symm.trans nw1))
  have no_w2 : P w2 = none := Classical.byContradiction (fun h => h ((frP58 w2 h (pm_nx f64 nw2).symm).symm.trans nw2))
  have no_w3 : P w3 = none := Classical.byContradiction (fun h => h ((frP58 w3 h (pm_nx f64 nw3).symm).symm.trans nw3))
  have frW : ∀ a : Nat, P a ≠ none → a ≠ h0 → P9 a = P a := fun a h g0 => (fr9 a (by rw [frP58 a h g0]; exact h) (fun e8 => h (by rw [e8]; exact no_q57))).trans (frP58 a h g0)
  have ne_q1_w1 : q1 ≠ w1 := pm_nx f59 nw1
  have ne_q1_w2 : q1 ≠ w2 := pm_nx f59 nw2
  have ne_q1_w3 : q1 ≠ w3 := pm_nx f59 nw3
  have ne_q8_w1 : q8 ≠ w1 := pm_nx f60 nw1
  have ne_q8_w2 : q8 ≠ w2 := pm_nx f60 nw2
  have ne_q8_w3 : q8 ≠ w3 := pm_nx f60 nw3
  have ne_q17_w1 : q17 ≠ w1 := pm_nx f61 nw1
  have ne_q17_w2 : q17 ≠ w2 := pm_nx f61 nw2
  have ne_q17_w3 : q17 ≠ w3 := pm_nx f61 nw3
  have ne_q28_w1 : q28 ≠ w1 := pm_nx f63 nw1
  have ne_q28_w2 : q28 ≠ w2 := pm_nx f63 nw2
  have ne_q28_w3 : q28 ≠ w3 := pm_nx f63 nw3
  have ne_qa35_w1 : qa35 ≠ w1 := pm_nx f62 nw1
  have ne_qa35_w2 : qa35 ≠ w2 := pm_nx f62 nw2
  have ne_qa35_w3 : qa35 ≠ w3 := pm_nx f62 nw3
  refine pm_putF (ci := 0) (v := .ref q57) (ty := .object "HydrantRows$Walk") (C := cn_C) (T := cf_C) (N := 8) hx hb hg gu_C ct_C co_C cm_C hown hK.2.1 hw f71 rfl 4 (by decide) (hg _ gf_C_35) (fun _ h9 => h9) rfl hin rfl (by decide +kernel) rfl rfl (Nat.le_of_ble_eq_true rfl) dd_C_init_49 (fun H locs hw => ?_)
  have hw : pm_W z D cl_w (pm_up P9 h0 (.inr (0, [.ref q1, .ref q8, .ref q17, .ref q28, .ref q57, .int 0, .int 0, .int 0]))) s.heap H _ := hw
  obtain ⟨P72, eP72⟩ : ∃ pmv : pm_T, pmv = pm_up P9 h0 (.inr (0, [.ref q1, .ref q8, .ref q17, .ref q28, .ref q57, .int 0, .int 0, .int 0])) := ⟨_, rfl⟩
  rw [← eP72] at hw
  have f73 : P72 q1 = some (.inl (ac 3, 40, .inr (.inr (.inr (.inr (fun _ => none)))))) := by rw [eP72, pm_n (pm_ne f66 f71 (by simp))]; exact f66
  have f74 : P72 q8 = some (.inl (ac 4, 100, .inr (.inr (.inr (.inr (fun _ => none)))))) := by rw [eP72, pm_n (pm_ne f67 f71 (by simp))]; exact f67
  have f75 : P72 q17 = some (.inl (ac 0, 20, .inl (fun _ => 0))) := by rw [eP72, pm_n (pm_ne f68 f71 (by simp))]; exact f68
  have f76 : P72 qa35 = some (.inl (ac 0, 40, .inl (fun _ => 0))) := by rw [eP72, pm_n (pm_ne f69 f71 (by simp))]; exact f69
  have f77 : P72 q28 = some (.inr (4, [.ref qa35, .int 0])) := by rw [eP72, pm_n (pm_ne f70 f71 (by simp))]; exact f70
  have f78 : P72 q57 = some (.inr (5, [.ref w1, .ref w2, .ref w3, .int 0, .int 0])) := by rw [eP72, pm_n (pm_ne gw0 f71 (by simp))]; exact gw0
  have f79 : P72 w1 = some (.inl (ac 3, 6, .inr (.inr (.inr (.inr (fun _ => none)))))) := by rw [eP72, pm_n (pm_ne gw1 f71 (by simp))]; exact gw1
  have f80 : P72 w2 = some (.inl (ac 0, 6, .inl (fun _ => 0))) := by rw [eP72, pm_n (pm_ne gw2 f71 (by simp))]; exact gw2
  have f81 : P72 w3 = some (.inl (ac 0, 6, .inl (fun _ => 0))) := by rw [eP72, pm_n (pm_ne gw3 f71 (by simp))]; exact gw3
  have f82 : P72 h0 = some (.inr (0, [.ref q1, .ref q8, .ref q17, .ref q28, .ref q57, .int 0, .int 0, .int 0])) := by rw [eP72]; exact pm_s
  have frP72 : ∀ a : Nat, P a ≠ none → a ≠ h0 → P72 a = P a := fun a h g0 => by rw [eP72, pm_n g0]; exact (frW a h g0)
  refine lv_aload_n hx hb dd_C_init_52 rfl (lv_at hl 0 rfl) ?_
  refine lv_iconst (v := 0) hx hb dd_C_init_53 (by decide) ?_
  refine pm_put (ci := 0) (v := .int (0 : Int32)) (ty := .int) (C := cn_C) (T := cf_C) (N := 8) hx hb hg gu_C ct_C co_C cm_C hown hK.2.1 hw f82 rfl 5 (by decide) (hg _ gf_C_39) (fun _ h9 => h9) rfl (by decide +kernel) rfl rfl (Nat.le_of_ble_eq_true rfl) dd_C_init_54 (fun H locs hw => ?_)
  have hw : pm_W z D cl_w (pm_up P72 h0 (.inr (0, [.ref q1, .ref q8, .ref q17, .ref q28, .ref q57, .int (0 : Int32), .int 0, .int 0]))) s.heap H _ := hw
  obtain ⟨P83, eP83⟩ : ∃ pmv : pm_T, pmv = pm_up P72 h0 (.inr (0, [.ref q1, .ref q8, .ref q17, .ref q28, .ref q57, .int (0 : Int32), .int 0, .int 0])) := ⟨_, rfl⟩
  rw [← eP83] at hw
  have f84 : P83 q1 = some (.inl (ac 3, 40, .inr (.inr (.inr (.inr (fun _ => none)))))) := by rw [eP83, pm_n (pm_ne f73 f82 (by simp))]; exact f73
  have f85 : P83 q8 = some (.inl (ac 4, 100, .inr (.inr (.inr (.inr (fun _ => none)))))) := by rw [eP83, pm_n (pm_ne f74 f82 (by simp))]; exact f74
  have f86 : P83 q17 = some (.inl (ac 0, 20, .inl (fun _ => 0))) := by rw [eP83, pm_n (pm_ne f75 f82 (by simp))]; exact f75
  have f87 : P83 qa35 = some (.inl (ac 0, 40, .inl (fun _ => 0))) := by rw [eP83, pm_n (pm_ne f76 f82 (by simp))]; exact f76
  have f88 : P83 q28 = some (.inr (4, [.ref qa35, .int 0])) := by rw [eP83, pm_n (pm_ne f77 f82 (by simp))]; exact f77
  have f89 : P83 q57 = some (.inr (5, [.ref w1, .ref w2, .ref w3, .int 0, .int 0])) := by rw [eP83, pm_n (pm_ne f78 f82 (by simp))]; exact f78
  have f90 : P83 w1 = some (.inl (ac 3, 6, .inr (.inr (.inr (.inr (fun _ => none)))))) := by rw [eP83, pm_n (pm_ne f79 f82 (by simp))]; exact f79
  have f91 : P83 w2 = some (.inl (ac 0, 6, .inl (fun _ => 0))) := by rw [eP83, pm_n (pm_ne f80 f82 (by simp))]; exact f80
  have f92 : P83 w3 = some (.inl (ac 0, 6, .inl (fun _ => 0))) := by rw [eP83, pm_n (pm_ne f81 f82 (by simp))]; exact f81
  have f93 : P83 h0 = some (.inr (0, [.ref q1, .ref q8, .ref q17, .ref q28, .ref q57, .int (0 : Int32), .int 0, .int 0])) := by rw [eP83]; exact pm_s
  have frP83 : ∀ a : Nat, P a ≠ none → a ≠ h0 → P83 a = P a := fun a h g0 => by rw [eP83, pm_n g0]; exact (frP72 a h g0)
  refine lv_aload_n hx hb dd_C_init_57 rfl (lv_at hl 0 rfl) ?_
  refine lv_iconst (v := 0) hx hb dd_C_init_58 (by decide) ?_
  refine pm_put (ci := 0) (v := .int (0 : Int32)) (ty := .int) (C := cn_C) (T := cf_C) (N := 8) hx hb hg gu_C ct_C co_C cm_C hown hK.2.1 hw f93 rfl 6 (by decide) (hg _ gf_C_43) (fun _ h9 => h9) rfl (by decide +kernel) rfl rfl (Nat.le_of_ble_eq_true rfl) dd_C_init_59 (fun H locs hw => ?_)
  have hw : pm_W z D cl_w (pm_up P83 h0 (.inr (0, [.ref q1, .ref q8, .ref q17, .ref q28, .ref q57, .int (0 : Int32), .int (0 : Int32), .int 0]))) s.heap H _ := hw
  obtain ⟨P94, eP94⟩ : ∃ pmv : pm_T, pmv = pm_up P83 h0 (.inr (0, [.ref q1, .ref q8, .ref q17, .ref q28, .ref q57, .int (0 : Int32), .int (0 : Int32), .int 0])) := ⟨_, rfl⟩
  rw [← eP94] at hw
  have f95 : P94 q1 = some (.inl (ac 3, 40, .inr (.inr (.inr (.inr (fun _ => none)))))) := by rw [eP94, pm_n (pm_ne f84 f93 (by simp))]; exact f84
  have f96 : P94 q8 = some (.inl (ac 4, 100, .inr (.inr (.inr (.inr (fun _ => none)))))) := by rw [eP94, pm_n (pm_ne f85 f93 (by simp))]; exact f85
  have f97 : P94 q17 = some (.inl (ac 0, 20, .inl (fun _ => 0))) := by rw [eP94, pm_n (pm_ne f86 f93 (by simp))]; exact f86
  have f98 : P94 qa35 = some (.inl (ac 0, 40, .inl (fun _ => 0))) := by rw [eP94, pm_n (pm_ne f87 f93 (by simp))]; exact f87
  have f99 : P94 q28 = some (.inr (4, [.ref qa35, .int 0])) := by rw [eP94, pm_n (pm_ne f88 f93 (by simp))]; exact f88
  have f100 : P94 q57 = some (.inr (5, [.ref w1, .ref w2, .ref w3, .int 0, .int 0])) := by rw [eP94, pm_n (pm_ne f89 f93 (by simp))]; exact f89
  have f101 : P94 w1 = some (.inl (ac 3, 6, .inr (.inr (.inr (.inr (fun _ => none)))))) := by rw [eP94, pm_n (pm_ne f90 f93 (by simp))]; exact f90
  have f102 : P94 w2 = some (.inl (ac 0, 6, .inl (fun _ => 0))) := by rw [eP94, pm_n (pm_ne f91 f93 (by simp))]; exact f91
  have f103 : P94 w3 = some (.inl (ac 0, 6, .inl (fun _ => 0))) := by rw [eP94, pm_n (pm_ne f92 f93 (by simp))]; exact f92
  have f104 : P94 h0 = some (.inr (0, [.ref q1, .ref q8, .ref q17, .ref q28, .ref q57, .int (0 : Int32), .int (0 : Int32), .int 0])) := by rw [eP94]; exact pm_s
  have frP94 : ∀ a : Nat, P a ≠ none → a ≠ h0 → P94 a = P a := fun a h g0 => by rw [eP94, pm_n g0]; exact (frP83 a h g0)
  refine lv_aload_n hx hb dd_C_init_62 rfl (lv_at hl 0 rfl) ?_
  refine lv_iconst (v := 0) hx hb dd_C_init_63 (by decide) ?_
  refine pm_put (ci := 0) (v := .int (0 : Int32)) (ty := .boolean) (C := cn_C) (T := cf_C) (N := 8) hx hb hg gu_C ct_C co_C cm_C hown hK.2.1 hw f104 rfl 7 (by decide) (hg _ gf_C_46) (fun _ h9 => h9) rfl (by decide +kernel) (by decide) (by decide) (Nat.le_of_ble_eq_true rfl) dd_C_init_64 (fun H locs hw => ?_)
  have hw : pm_W z D cl_w (pm_up P94 h0 (.inr (0, [.ref q1, .ref q8, .ref q17, .ref q28, .ref q57, .int (0 : Int32), .int (0 : Int32), .int (0 : Int32)]))) s.heap H _ := hw
  obtain ⟨P105, eP105⟩ : ∃ pmv : pm_T, pmv = pm_up P94 h0 (.inr (0, [.ref q1, .ref q8, .ref q17, .ref q28, .ref q57, .int (0 : Int32), .int (0 : Int32), .int (0 : Int32)])) := ⟨_, rfl⟩
  rw [← eP105] at hw
  have f106 : P105 q1 = some (.inl (ac 3, 40, .inr (.inr (.inr (.inr (fun _ => none)))))) := by rw [eP105, pm_n (pm_ne f95 f104 (by simp))]; exact f95
  have f107 : P105 q8 = some (.inl (ac 4, 100, .inr (.inr (.inr (.inr (fun _ => none)))))) := by rw [eP105, pm_n (pm_ne f96 f104 (by simp))]; exact f96
  have f108 : P105 q17 = some (.inl (ac 0, 20, .inl (fun _ => 0))) := by rw [eP105, pm_n (pm_ne f97 f104 (by simp))]; exact f97
  have f109 : P105 qa35 = some (.inl (ac 0, 40, .inl (fun _ => 0))) := by rw [eP105, pm_n (pm_ne f98 f104 (by simp))]; exact f98
  have f110 : P105 q28 = some (.inr (4, [.ref qa35, .int 0])) := by rw [eP105, pm_n (pm_ne f99 f104 (by simp))]; exact f99
  have f111 : P105 q57 = some (.inr (5, [.ref w1, .ref w2, .ref w3, .int 0, .int 0])) := by rw [eP105, pm_n (pm_ne f100 f104 (by simp))]; exact f100
  have f112 : P105 w1 = some (.inl (ac 3, 6, .inr (.inr (.inr (.inr (fun _ => none)))))) := by rw [eP105, pm_n (pm_ne f101 f104 (by simp))]; exact f101
  have f113 : P105 w2 = some (.inl (ac 0, 6, .inl (fun _ => 0))) := by rw [eP105, pm_n (pm_ne f102 f104 (by simp))]; exact f102
  have f114 : P105 w3 = some (.inl (ac 0, 6, .inl (fun _ => 0))) := by rw [eP105, pm_n (pm_ne f103 f104 (by simp))]; exact f103
  have f115 : P105 h0 = some (.inr (0, [.ref q1, .ref q8, .ref q17, .ref q28, .ref q57, .int (0 : Int32), .int (0 : Int32), .int (0 : Int32)])) := by rw [eP105]; exact pm_s
  have frP105 : ∀ a : Nat, P a ≠ none → a ≠ h0 → P105 a = P a := fun a h g0 => by rw [eP105, pm_n g0]; exact (frP94 a h g0)
  refine lv_iconst (v := 0) hx hb dd_C_init_67 (by decide) ?_
  refine lv_istore_n (lv' := [(1, .int (0 : Int32)), (0, .ref h0)]) hx hb dd_C_init_68 rfl hl (by decide) rfl (fun ls hl => ?_)
  have lp : ∀ (n k : Nat), k + n = 20 → ∀ (lm : Nat → Int32) (Pk : pm_T) (H : Heap) (locs : List Loc) (ls : Array Slot), Pk = pm_up P105 q17 (.inl (ac 0, 20, .inl lm)) → (∀ j, j < k → lm j = 20000) → pm_W z D cl_w Pk s.heap H locs → lv_has ls 2 [(1, .int (nI k)), (0, .ref h0)] → W p l e ({ frames := 2, cells := 9, slots := 225, locals := 60 } : Room) s m ([.ref h0] : List Value).toArray below meth c H locs 9 225 (MQ below (cx_Q z D (fun v P' => v = none ∧ ∃ aH aT aL aK aW ak aC aY aB : Nat, ∃ lm : Nat → Int32, (∀ j, j < 20 → lm j = 20000) ∧ (P aH = none ∧ P aT = none ∧ P aL = none ∧ P aK = none ∧ P aW = none ∧ P ak = none ∧ P aC = none ∧ P aY = none ∧ P aB = none) ∧ aY ≠ aB ∧ P' h0 = some (.inr (0, [.ref aH, .ref aT, .ref aL, .ref aK, .ref aW, .int 0, .int 0, .int 0])) ∧ P' aH = some (.inl (ac 3, 40, .inr (.inr (.inr (.inr (fun _ => none)))))) ∧ P' aT = some (.inl (ac 4, 100, .inr (.inr (.inr (.inr (fun _ => none)))))) ∧ P' aL = some (.inl (ac 0, 20, .inl lm)) ∧ P' aK = some (.inr (4, [.ref ak, .int 0])) ∧ P' ak = some (.inl (ac 0, 40, .inl (fun _ => 0))) ∧ P' aW = some (.inr (5, [.ref aC, .ref aY, .ref aB, .int 0, .int 0])) ∧ P' aC = some (.inl (ac 3, 6, .inr (.inr (.inr (.inr (fun _ => none)))))) ∧ P' aY = some (.inl (ac 0, 6, .inl (fun _ => 0))) ∧ P' aB = some (.inl (ac 0, 6, .inl (fun _ => 0))) ∧ ∀ a : Nat, P a ≠ none → a ≠ h0 → P' a = P a)) ([.ref h0] : List Value).toArray s ({ frames := 2, cells := 9, slots := 225, locals := 60 } : Room).cells ({ frames := 2, cells := 9, slots := 225, locals := 60 } : Room).slots (pm_A z)) (F0 m 69 ls []) := by
    intro n
    induction n with
    | zero =>
      intro k hk lm Pk H locs ls ePk hlm hw hl
      have hk : k = 20 := by omega
      subst hk
      have kq1 : Pk q1 = some (.inl (ac 3, 40, .inr (.inr (.inr (.inr (fun _ => none)))))) := by rw [ePk, pm_n ne_q1_q17]; exact f106
      have kq8 : Pk q8 = some (.inl (ac 4, 100, .inr (.inr (.inr (.inr (fun _ => none)))))) := by rw [ePk, pm_n ne_q8_q17]; exact f107
      have kqa35 : Pk qa35 = some (.inl (ac 0, 40, .inl (fun _ => 0))) := by rw [ePk, pm_n (Ne.symm ne_q17_qa35)]; exact f109
      have kq28 : Pk q28 = some (.inr (4, [.ref qa35, .int 0])) := by rw [ePk, pm_n (Ne.symm ne_q17_q28)]; exact f110
      have kq57 : Pk q57 = some (.inr (5, [.ref w1, .ref w2, .ref w3, .int 0, .int 0])) := by rw [ePk, pm_n (Ne.symm ne_q17_q57)]; exact f111
      have kw1 : Pk w1 = some (.inl (ac 3, 6, .inr (.inr (.inr (.inr (fun _ => none)))))) := by rw [ePk, pm_n (Ne.symm ne_q17_w1)]; exact f112
      have kw2 : Pk w2 = some (.inl (ac 0, 6, .inl (fun _ => 0))) := by rw [ePk, pm_n (Ne.symm ne_q17_w2)]; exact f113
      have kw3 : Pk w3 = some (.inl (ac 0, 6, .inl (fun _ => 0))) := by rw [ePk, pm_n (Ne.symm ne_q17_w3)]; exact f114
      have kh0 : Pk h0 = some (.inr (0, [.ref q1, .ref q8, .ref q17, .ref q28, .ref q57, .int (0 : Int32), .int (0 : Int32), .int (0 : Int32)])) := by rw [ePk, pm_n (pm_ne f115 f108 (by simp))]; exact f115
      have kq17 : Pk q17 = some (.inl (ac 0, 20, .inl lm)) := by rw [ePk]; exact pm_s
      refine lv_iload_n hx hb dd_C_init_69 rfl (lv_at hl 0 rfl) ?_
      refine lv_aload_n hx hb dd_C_init_70 rfl (lv_at hl 1 rfl) ?_
      refine pm_get (ci := 0) (C := cn_C) (T := cf_C) (N := 8) (v := .ref q17) hx hb hg gu_C hown hK.2.1 hw kh0 rfl 2 (by decide) (hg _ gf_C_21) (fun _ h9 => h9) rfl dd_C_init_71 ?_
      refine pm_alen (v := 20) hx hb hK.2.1 hw 0 kq17 rfl rfl dd_C_init_74 ?_
      refine lv_icmp_ge (tgt := 93) hx hb dd_C_init_75 (by decide) (fun c116 => ?_) (fun c116 => absurd (nI_le (Nat.le_refl 20) (by decide)) c116)
      refine cx_vret hx hb hr hlocks hw dd_C_init_93 (by decide) (by decide) ?_
      refine ⟨rfl, q1, q8, q17, q28, q57, qa35, w1, w2, w3, lm, hlm, ⟨no_q1, no_q8, no_q17, no_q28, no_q57, no_qa35, no_w1, no_w2, no_w3⟩, w23, kh0, kq1, kq8, kq17, kq28, kqa35, kq57, kw1, kw2, kw3, fun a h g0 => ?_⟩
      rw [ePk, pm_n (fun e8 => h (by rw [e8]; exact no_q17))]; exact frP105 a h g0
    | succ n ih =>
      intro k hk lm Pk H locs ls ePk hlm hw hl
      have hlt : k < 20 := by omega
      have hcl : (nI k).toNatClampNeg = k := nI_clamp (by omega)
      have kq1 : Pk q1 = some (.inl (ac 3, 40, .inr (.inr (.inr (.inr (fun _ => none)))))) := by rw [ePk, pm_n ne_q1_q17]; exact f106
      have kq8 : Pk q8 = some (.inl (ac 4, 100, .inr (.inr (.inr (.inr (fun _ => none)))))) := by rw [ePk, pm_n ne_q8_q17]; exact f107
      have kqa35 : Pk qa35 = some (.inl (ac 0, 40, .inl (fun _ => 0))) := by rw [ePk, pm_n (Ne.symm ne_q17_qa35)]; exact f109
      have kq28 : Pk q28 = some (.inr (4, [.ref qa35, .int 0])) := by rw [ePk, pm_n (Ne.symm ne_q17_q28)]; exact f110
      have kq57 : Pk q57 = some (.inr (5, [.ref w1, .ref w2, .ref w3, .int 0, .int 0])) := by rw [ePk, pm_n (Ne.symm ne_q17_q57)]; exact f111
      have kw1 : Pk w1 = some (.inl (ac 3, 6, .inr (.inr (.inr (.inr (fun _ => none)))))) := by rw [ePk, pm_n (Ne.symm ne_q17_w1)]; exact f112
      have kw2 : Pk w2 = some (.inl (ac 0, 6, .inl (fun _ => 0))) := by rw [ePk, pm_n (Ne.symm ne_q17_w2)]; exact f113
      have kw3 : Pk w3 = some (.inl (ac 0, 6, .inl (fun _ => 0))) := by rw [ePk, pm_n (Ne.symm ne_q17_w3)]; exact f114
      have kh0 : Pk h0 = some (.inr (0, [.ref q1, .ref q8, .ref q17, .ref q28, .ref q57, .int (0 : Int32), .int (0 : Int32), .int (0 : Int32)])) := by rw [ePk, pm_n (pm_ne f115 f108 (by simp))]; exact f115
      have kq17 : Pk q17 = some (.inl (ac 0, 20, .inl lm)) := by rw [ePk]; exact pm_s
      refine lv_iload_n hx hb dd_C_init_69 rfl (lv_at hl 0 rfl) ?_
      refine lv_aload_n hx hb dd_C_init_70 rfl (lv_at hl 1 rfl) ?_
      refine pm_get (ci := 0) (C := cn_C) (T := cf_C) (N := 8) (v := .ref q17) hx hb hg gu_C hown hK.2.1 hw kh0 rfl 2 (by decide) (hg _ gf_C_21) (fun _ h9 => h9) rfl dd_C_init_71 ?_
      refine pm_alen (v := 20) hx hb hK.2.1 hw 0 kq17 rfl rfl dd_C_init_74 ?_
      refine lv_icmp_ge (tgt := 93) hx hb dd_C_init_75 (by decide) (fun c117 => absurd c117 (nI_ge hlt (by decide))) (fun c117 => ?_)
      refine lv_aload_n hx hb dd_C_init_78 rfl (lv_at hl 1 rfl) ?_
      refine pm_get (ci := 0) (C := cn_C) (T := cf_C) (N := 8) (v := .ref q17) hx hb hg gu_C hown hK.2.1 hw kh0 rfl 2 (by decide) (hg _ gf_C_21) (fun _ h9 => h9) rfl dd_C_init_79 ?_
      refine lv_iload_n hx hb dd_C_init_82 rfl (lv_at hl 0 rfl) ?_
      refine lv_sipush (v := 20000) hx hb dd_C_init_83 (by decide) ?_
      refine pm_iast (x := (20000 : Int32)) hx hb hK.2.1 hw 0 kq17 rfl (vp_in_nI hlt (by decide)) dd_C_init_86 (fun H locs hw => ?_)
      have hw : pm_W z D cl_w (pm_up Pk q17 (.inl (ac 0, 20, .inl (upd lm ((nI k).toNatClampNeg) (20000 : Int32))))) s.heap H _ := hw
      obtain ⟨P118, eP118⟩ : ∃ pmv : pm_T, pmv = pm_up Pk q17 (.inl (ac 0, 20, .inl (upd lm ((nI k).toNatClampNeg) (20000 : Int32)))) := ⟨_, rfl⟩
      rw [← eP118] at hw
      have f119 : P118 h0 = some (.inr (0, [.ref q1, .ref q8, .ref q17, .ref q28, .ref q57, .int (0 : Int32), .int (0 : Int32), .int (0 : Int32)])) := by rw [eP118, pm_n (pm_ne kh0 kq17 (by simp))]; exact kh0
      have f120 : P118 q17 = some (.inl (ac 0, 20, .inl (upd lm ((nI k).toNatClampNeg) (20000 : Int32)))) := by rw [eP118]; exact pm_s
      obtain ⟨x121, ex121⟩ : ∃ y : Int32, y = (nI k) + 1 := ⟨_, rfl⟩
      refine lv_iinc (v := x121) (lv' := [(1, .int x121), (0, .ref h0)]) hx hb dd_C_init_87 hl (k := 0) rfl (by rw [ex121]; rfl) (by decide) rfl (fun ls hl => ?_)
      refine lv_goto (tgt := 69) hx hb dd_C_init_90 (by decide) ?_
      have hi : x121 = nI (k + 1) := by rw [ex121]; exact nI_1 k
      rw [hi] at hl
      refine ih (k + 1) (by omega) (upd lm k 20000) P118 H _ ls (by rw [eP118, ePk, pm_uu, hcl]) (fun j hj => ?_) hw (lv_sub hl [0, 1] rfl)
      by_cases hjk : j = k
      · rw [hjk, pk_us]
      · rw [pk_un hjk]; exact hlm j (by omega)
  exact lp 20 0 (by decide) (fun _ => 0) P105 _ _ ls (pm_id f108).symm (fun j hj => absurd hj (Nat.not_lt_zero j)) hw (lv_sub hl [0, 1] rfl)
