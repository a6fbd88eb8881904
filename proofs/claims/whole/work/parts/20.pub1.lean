def su_wh2 (tv : Nat → Nat → Int32) (c : Option Nat) (p : Int32) : Int32 := su_gv (tv 3) (tv 4) (tv 5) c p
def su_flw (r f l p w : Int32) : Int32 := (if w = 0 then su_up r f p else su_lo r l p) / (if 1 < su_gc 64 (su_up r f p) (su_lo r l p) then su_gc 64 (su_up r f p) (su_lo r l p) else 1)
def su_ha (hv : Nat → Nat → Int32) (tn : Nat → Int32) (c : Option Nat) (q : Nat) (w : Int32) : Int32 := if w = 0 then hv 3 q else if w = 1 then hv 4 q else if w = 2 then hv 7 q else if w = 3 then su_cn tn c else if w = 4 then hv 9 q else hv 6 q
def su_ta (tv : Nat → Nat → Int32) (t : Nat) (w : Int32) : Int32 := if w = 0 then tv 1 t else if w = 1 then tv 2 t else if w = 2 then tv 3 t else if w = 3 then tv 4 t else tv 5 t
def su_tk (p : Int32) (fT : Nat → Option Nat) : Option Nat := if p < 0 then none else if (100 : Int32) ≤ p then none else fT p.toNatClampNeg
theorem su_mx {x : Int32} : ¬ (if 1 < x then x else 1) = 0 := by
  by_cases h : 1 < x
  · rw [if_pos h]
    intro h1
    rw [h1] at h
    exact absurd h (by decide)
  · rw [if_neg h]; decide

set_option maxHeartbeats 4000000 in
set_option maxRecDepth 100000 in
theorem c_C_limit (l : Launch) (hT : l.stackTraces = false) (z : Nat) (D : va_G) (ac : Nat → ClassId) (sa : Nat → Nat) (P : pm_T) (h0 aH aT aL aK aW : Nat) (nh nt al : Int32) (lm : Nat → Int32) (p1 p2 : Int32) (f0 : P h0 = some (.inr (0, [.ref aH, .ref aT, .ref aL, .ref aK, .ref aW, .int nh, .int nt, .int al]))) (f1 : P aL = some (.inl (ac 0, 20, .inl lm))) : cx_V l yy_C_limit bb_C_limit 3 none ({ frames := 7, cells := 2, slots := 12, locals := 138 } : Room) z D ac sa P [.ref h0, .int p1, .int p2] (fun v P' => su_al [(su_main p1, xn_IAE), (su_fl p2, xn_IOB)] ∧ v = none ∧ P' = pm_up P aL (.inl (ac 0, 20, .inl (upd lm p1.toNatClampNeg p2)))) (fun E P' => P' = P ∧ su_xs [(su_main p1, xn_IAE), (su_fl p2, xn_IOB)] E) := by
  refine cx_ofV (by decide) (Nat.le_of_ble_eq_true rfl) (fun p e s m below meth c ls hx hb hr hml hg hown hlocks hout hK hw hl => ?_)
  have hl : lv_has ls 3 [(0, .ref h0), (1, .int p1), (2, .int p2)] := hl
  have hown : s.vm.findClass cn_C = some m.cls := hown
  refine lv_aload_n hx hb dd_C_limit_0 rfl (lv_at hl 0 rfl) ?_
  refine lv_iload_n hx hb dd_C_limit_1 rfl (lv_at hl 1 rfl) ?_
  refine cx_afterX (cx_rVX (n := 1) (As := [.int p1]) (rest := []) ⟨hx, hb, hml, hown, hg⟩ (c_C_needMain l hT z D ac sa P h0 aH aT aL aK aW nh nt al lm p1 f0 f1) (cx_gv gm_C_50 gi_C_needMain gs_C_needMain gn_C gc_C_needMain) (by decide +kernel) ⟨by decide, by decide⟩ hK hw f0 rfl rfl hl.1 rfl (Nat.le_of_ble_eq_true rfl) dd_C_limit_2 ⟨by decide, by decide⟩) hw (fun E9 ce9 q9 P9 H locs hp hw hce hcv hcl => ?_) (fun v9 P9 H locs hp hw => ?_)
  · skip
    obtain ⟨rfl, e9, n1⟩ := hp
    rw [e9] at hw
    clear e9 P9
    refine cx_pass hout hlocks hce hcv hcl hw ?_ (by decide) (by decide)
    exact ⟨rfl, Or.inl ⟨n1, rfl⟩⟩
  · skip
    obtain ⟨rfl, e9, n2⟩ := hp
    rw [e9] at hw
    clear e9 P9
    refine W.eq (g2 := F0 m 5 ls []) rfl ?_
    refine lv_iload_n hx hb dd_C_limit_5 rfl (lv_at hl 2 rfl) ?_
    refine cx_afterX (cx_rSX (n := 1) (As := [.int p2]) (rest := []) ⟨hx, hb, hml, hown, hg⟩ (c_C_needFlow l hT z D ac sa P p2) (cx_gs gm_C_73 gt_C_needFlow gn_C gc_C_needFlow) (by decide +kernel) ⟨by decide, by decide⟩ hK hw rfl hl.1 rfl (Nat.le_of_ble_eq_true rfl) dd_C_limit_6 ⟨by decide, by decide⟩) hw (fun E9 ce9 q9 P9 H locs hp hw hce hcv hcl => ?_) (fun v9 P9 H locs hp hw => ?_)
    · skip
      obtain ⟨rfl, e9, n3⟩ := hp
      rw [e9] at hw
      clear e9 P9
      refine cx_pass hout hlocks hce hcv hcl hw ?_ (by decide) (by decide)
      exact ⟨rfl, Or.inr ⟨n2, Or.inl ⟨n3, rfl⟩⟩⟩
    · skip
      obtain ⟨rfl, e9, n4⟩ := hp
      rw [e9] at hw
      clear e9 P9
      refine W.eq (g2 := F0 m 9 ls []) rfl ?_
      refine lv_aload_n hx hb dd_C_limit_9 rfl (lv_at hl 0 rfl) ?_
      refine pm_get (ci := 0) (C := cn_C) (T := cf_C) (N := 8) (v := .ref aL) hx hb hg gu_C hown hK.2.1 hw f0 rfl 2 (by decide) (hg _ gf_C_21) (fun _ h9 => h9) rfl dd_C_limit_10 ?_
      refine lv_iload_n hx hb dd_C_limit_13 rfl (lv_at hl 1 rfl) ?_
      refine lv_iload_n hx hb dd_C_limit_14 rfl (lv_at hl 2 rfl) ?_
      refine pm_iast (x := p2) hx hb hK.2.1 hw 0 f1 rfl (vp_in_lg (n := 20) (by decide) n2.1 n2.2) dd_C_limit_15 (fun H locs hw => ?_)
      have hw : pm_W z D cl_w (pm_up P aL (.inl (ac 0, 20, .inl (upd lm p1.toNatClampNeg p2)))) s.heap H _ := hw
      obtain ⟨P5, eP5⟩ : ∃ pmv : pm_T, pmv = pm_up P aL (.inl (ac 0, 20, .inl (upd lm p1.toNatClampNeg p2))) := ⟨_, rfl⟩
      rw [← eP5] at hw
      have f6 : P5 h0 = some (.inr (0, [.ref aH, .ref aT, .ref aL, .ref aK, .ref aW, .int nh, .int nt, .int al])) := by rw [eP5, pm_n (pm_ne f0 f1 (by simp))]; exact f0
      have f7 : P5 aL = some (.inl (ac 0, 20, .inl (upd lm p1.toNatClampNeg p2))) := by rw [eP5]; exact pm_s
      refine vx_ret (cx_vret hx hb hr hlocks hw dd_C_limit_16 (by decide) (by decide) ?_)
      exact ⟨⟨n2, n4, trivial⟩, rfl, eP5⟩

set_option maxHeartbeats 4000000 in
set_option maxRecDepth 100000 in
theorem c_C_allow (l : Launch) (z : Nat) (D : va_G) (ac : Nat → ClassId) (sa : Nat → Nat) (P : pm_T) (h0 aH aT aL aK aW : Nat) (nh nt al : Int32) (p1 : Int32) (hp1 : p1 = 0 ∨ p1 = 1) (f0 : P h0 = some (.inr (0, [.ref aH, .ref aT, .ref aL, .ref aK, .ref aW, .int nh, .int nt, .int al]))) : cx_M l yy_C_allow bb_C_allow 2 none ({ frames := 0, cells := 0, slots := 0, locals := 0 } : Room) z D ac sa P [.ref h0, .int p1] (fun v P' => v = none ∧ P' = pm_up P h0 (.inr (0, [.ref aH, .ref aT, .ref aL, .ref aK, .ref aW, .int nh, .int nt, .int p1]))) := by
  refine cx_ofM (by decide) (Nat.le_of_ble_eq_true rfl) (fun p e s m below meth c ls hx hb hr hml hg hown hlocks hin hK hw hl => ?_)
  have hl : lv_has ls 2 [(0, .ref h0), (1, .int p1)] := hl
  have hown : s.vm.findClass cn_C = some m.cls := hown
  refine lv_aload_n hx hb dd_C_allow_0 rfl (lv_at hl 0 rfl) ?_
  refine lv_iload_n hx hb dd_C_allow_1 rfl (lv_at hl 1 rfl) ?_
  refine pm_put (ci := 0) (v := .int p1) (ty := .boolean) (C := cn_C) (T := cf_C) (N := 8) hx hb hg gu_C ct_C co_C cm_C hown hK.2.1 hw f0 rfl 7 (by decide) (hg _ gf_C_46) (fun _ h9 => h9) rfl (by decide +kernel) (by rcases hp1 with h | h <;> rw [h] <;> decide) (by rcases hp1 with h | h <;> rw [h] <;> decide) (Nat.le_of_ble_eq_true rfl) dd_C_allow_2 (fun H locs hw => ?_)
  have hw : pm_W z D cl_w (pm_up P h0 (.inr (0, [.ref aH, .ref aT, .ref aL, .ref aK, .ref aW, .int nh, .int nt, .int p1]))) s.heap H _ := hw
  obtain ⟨P1, eP1⟩ : ∃ pmv : pm_T, pmv = pm_up P h0 (.inr (0, [.ref aH, .ref aT, .ref aL, .ref aK, .ref aW, .int nh, .int nt, .int p1])) := ⟨_, rfl⟩
  rw [← eP1] at hw
  have f2 : P1 h0 = some (.inr (0, [.ref aH, .ref aT, .ref aL, .ref aK, .ref aW, .int nh, .int nt, .int p1])) := by rw [eP1]; exact pm_s
  refine cx_vret hx hb hr hlocks hw dd_C_allow_5 (by decide) (by decide) ?_
  exact ⟨rfl, eP1⟩

set_option maxHeartbeats 4000000 in
set_option maxRecDepth 100000 in
theorem c_C_flow (l : Launch) (hT : l.stackTraces = false) (z : Nat) (D : va_G) (ac : Nat → ClassId) (sa : Nat → Nat) (P : pm_T) (h0 aH aT aL aK aW : Nat) (nh nt al : Int32) (fH : Nat → Option Nat) (hv tv ov : Nat → Nat → Int32) (aw : Nat → Nat) (ct : Nat → Option Nat) (fw : Nat → Nat → Option Nat) (p1 p2 p3 : Int32) (fy : hy_W P ac fH hv tv ov aw ct fw) (f0 : P h0 = some (.inr (0, [.ref aH, .ref aT, .ref aL, .ref aK, .ref aW, .int nh, .int nt, .int al]))) (f1 : P aH = some (.inl (ac 3, 40, .inr (.inr (.inr (.inr fH)))))) : cx_V l yy_C_flow bb_C_flow 8 (some .int) ({ frames := 7, cells := 5, slots := 30, locals := 138 } : Room) z D ac sa P [.ref h0, .int p1, .int p2, .int p3] (fun v P' => su_al [(¬ su_kn p1 fH = none, xn_IAE), (¬ p3 < 0 ∧ p3 ≤ 1, xn_IAE), (su_pr p2, xn_IOB), (∀ q, su_kn p1 fH = some q → ¬ ct q = none, xn_ISE), (∀ q, su_kn p1 fH = some q → ∀ t, ct q = some t → ¬ su_lo (tv 3 t) (tv 5 t) p2 ≤ 0, xn_ARE)] ∧ P' = P ∧ ∃ q t, su_kn p1 fH = some q ∧ ct q = some t ∧ v = some (.int (su_flw (tv 3 t) (tv 4 t) (tv 5 t) p2 p3))) (fun E P' => P' = P ∧ su_xs [(¬ su_kn p1 fH = none, xn_IAE), (¬ p3 < 0 ∧ p3 ≤ 1, xn_IAE), (su_pr p2, xn_IOB), (∀ q, su_kn p1 fH = some q → ¬ ct q = none, xn_ISE), (∀ q, su_kn p1 fH = some q → ∀ t, ct q = some t → ¬ su_lo (tv 3 t) (tv 5 t) p2 ≤ 0, xn_ARE)] E) := by
  refine cx_ofV (by decide) (Nat.le_of_ble_eq_true rfl) (fun p e s m below meth c ls hx hb hr hml hg hown hlocks hout hK hw hl => ?_)
  have hl : lv_has ls 8 [(0, .ref h0), (1, .int p1), (2, .int p2), (3, .int p3)] := hl
  have hown : s.vm.findClass cn_C = some m.cls := hown
  refine lv_aload_n hx hb dd_C_flow_0 rfl (lv_at hl 0 rfl) ?_
  refine lv_iload_n hx hb dd_C_flow_1 rfl (lv_at hl 1 rfl) ?_
  refine cx_afterX (cx_rVX (n := 1) (As := [.int p1]) (rest := []) ⟨hx, hb, hml, hown, hg⟩ (c_C_known l hT z D ac sa P h0 aH aT aL aK aW nh nt al fH p1 f0 f1) (cx_gv gm_C_76 gi_C_known gs_C_known gn_C gc_C_known) (by decide +kernel) ⟨by decide, by decide⟩ hK hw f0 rfl rfl hl.1 rfl (Nat.le_of_ble_eq_true rfl) dd_C_flow_2 ⟨by decide, by decide⟩) hw (fun E9 ce9 q9 P9 H locs hp hw hce hcv hcl => ?_) (fun v9 P9 H locs hp hw => ?_)
  · skip
    obtain ⟨rfl, e9, hn9⟩ := hp
    rw [e9] at hw
    clear e9 P9
    refine cx_pass hout hlocks hce hcv hcl hw ?_ (by decide) (by decide)
    exact ⟨rfl, Or.inl ⟨fun h8 => h8 hn9, rfl⟩⟩
  · skip
    obtain ⟨q, rfl, e9, hkq⟩ := hp
    rw [e9] at hw
    clear e9 P9
    obtain ⟨fqq, fqwq, fovq, ftq⟩ := fy _ q (su_kn_at hkq)
    refine W.eq (g2 := F0 m 5 ls [.ref q]) rfl ?_
    refine lv_astore (lv' := [(4, .ref q), (0, .ref h0), (1, .int p1), (2, .int p2), (3, .int p3)]) hx hb dd_C_flow_5 hl (by decide) rfl (fun ls hl => ?_)
    refine lv_iload_n hx hb dd_C_flow_7 rfl (lv_at hl 4 rfl) ?_
    refine lv_if_lt (tgt := 16) hx hb dd_C_flow_8 (by decide) (fun c1 => ?_) (fun c1 => ?_)
    · skip
      refine cx_thrS (E := xn_IAE) (text := "no such what") hx hb hT (by rw [hml]; exact hl.1.symm) hown hg hK hw (by decide +kernel) gk_C_54 gn_IllegalArgumentException xg_IAE xb_IAE xo_IAE (by decide +kernel) dd_C_flow_16 dd_C_flow_19 dd_C_flow_20 dd_C_flow_22 dd_C_flow_25 hout ⟨by decide, Nat.le_of_ble_eq_true rfl, by decide, by decide⟩ hlocks (by decide) (by decide) ?_
      exact ⟨rfl, Or.inr ⟨su_ne hkq, Or.inl ⟨fun h8 => h8.1 c1, rfl⟩⟩⟩
    · skip
      refine lv_iload_n hx hb dd_C_flow_11 rfl (lv_at hl 4 rfl) ?_
      refine lv_iconst (v := 1) hx hb dd_C_flow_12 (by decide) ?_
      refine lv_icmp_le (tgt := 26) hx hb dd_C_flow_13 (by decide) (fun c2 => ?_) (fun c2 => ?_)
      · skip
        refine lv_iload_n hx hb dd_C_flow_26 rfl (lv_at hl 3 rfl) ?_
        refine cx_afterX (cx_rSX (n := 1) (As := [.int p2]) (rest := []) ⟨hx, hb, hml, hown, hg⟩ (c_C_needPressure l hT z D ac sa P p2) (cx_gs gm_C_83 gt_C_needPressure gn_C gc_C_needPressure) (by decide +kernel) ⟨by decide, by decide⟩ hK hw rfl hl.1 rfl (Nat.le_of_ble_eq_true rfl) dd_C_flow_27 ⟨by decide, by decide⟩) hw (fun E9 ce9 q9 P9 H locs hp hw hce hcv hcl => ?_) (fun v9 P9 H locs hp hw => ?_)
        · skip
          obtain ⟨rfl, e9, n3⟩ := hp
          rw [e9] at hw
          clear e9 P9
          refine cx_pass hout hlocks hce hcv hcl hw ?_ (by decide) (by decide)
          exact ⟨rfl, Or.inr ⟨su_ne hkq, Or.inr ⟨⟨c1, c2⟩, Or.inl ⟨n3, rfl⟩⟩⟩⟩
        · skip
          obtain ⟨rfl, e9, n4⟩ := hp
          rw [e9] at hw
          clear e9 P9
          refine W.eq (g2 := F0 m 30 ls []) rfl ?_
          refine lv_aload hx hb dd_C_flow_30 (lv_at hl 0 rfl) ?_
          refine cx_afterX (cx_rSX (n := 1) (As := [.ref q]) (rest := []) ⟨hx, hb, hml, hown, hg⟩ (c_C_countingTest l hT z D ac sa P q (aw q) (hv 0 q) (hv 1 q) (hv 2 q) (hv 3 q) (hv 4 q) (hv 6 q) (hv 7 q) (hv 8 q) (hv 9 q) (ct q) fqq) (cx_gs gm_C_102 gt_C_countingTest gn_C gc_C_countingTest) (by decide +kernel) ⟨by decide, by decide⟩ hK hw rfl hl.1 rfl (Nat.le_of_ble_eq_true rfl) dd_C_flow_32 ⟨by decide, by decide⟩) hw (fun E9 ce9 q9 P9 H locs hp hw hce hcv hcl => ?_) (fun v9 P9 H locs hp hw => ?_)
          · skip
            obtain ⟨rfl, e9, hn9⟩ := hp
            rw [e9] at hw
            clear e9 P9
            refine cx_pass hout hlocks hce hcv hcl hw ?_ (by decide) (by decide)
            exact ⟨rfl, Or.inr ⟨su_ne hkq, Or.inr ⟨⟨c1, c2⟩, Or.inr ⟨n4, Or.inl ⟨fun h8 => h8 q hkq hn9, rfl⟩⟩⟩⟩⟩
          · skip
            obtain ⟨t, rfl, e9, hct⟩ := hp
            rw [e9] at hw
            clear e9 P9
            have fqt := ftq t hct
            refine W.eq (g2 := F0 m 35 ls [.ref t]) rfl ?_
            refine lv_astore (lv' := [(5, .ref t), (4, .ref q), (0, .ref h0), (1, .int p1), (2, .int p2), (3, .int p3)]) hx hb dd_C_flow_35 hl (by decide) rfl (fun ls hl => ?_)
            refine lv_aload hx hb dd_C_flow_37 (lv_at hl 0 rfl) ?_
            refine lv_iload_n hx hb dd_C_flow_39 rfl (lv_at hl 4 rfl) ?_
            refine cx_afterX (cx_rSX (n := 2) (As := [.ref t, .int p2]) (rest := []) ⟨hx, hb, hml, hown, hg⟩ (c_C_needTold l hT z D ac sa P t (tv 0 t) (tv 1 t) (tv 2 t) (tv 3 t) (tv 4 t) (tv 5 t) p2 fqt) (cx_gs gm_C_106 gt_C_needTold gn_C gc_C_needTold) (by decide +kernel) ⟨by decide, by decide⟩ hK hw rfl hl.1 rfl (Nat.le_of_ble_eq_true rfl) dd_C_flow_40 ⟨by decide, by decide⟩) hw (fun E9 ce9 q9 P9 H locs hp hw hce hcv hcl => ?_) (fun v9 P9 H locs hp hw => ?_)
            · skip
              obtain ⟨rfl, e9, hn9⟩ := hp
              rw [e9] at hw
              clear e9 P9
              refine cx_pass hout hlocks hce hcv hcl hw ?_ (by decide) (by decide)
              exact ⟨rfl, Or.inr ⟨su_ne hkq, Or.inr ⟨⟨c1, c2⟩, Or.inr ⟨n4, Or.inr ⟨(fun q8 h8 => by rw [hkq] at h8; cases h8; exact su_ne hct), Or.inl ⟨fun h8 => h8 q hkq t hct hn9, rfl⟩⟩⟩⟩⟩⟩
            · skip
              obtain ⟨rfl, e9, n5⟩ := hp
              rw [e9] at hw
              clear e9 P9
              refine W.eq (g2 := F0 m 43 ls []) rfl ?_
              refine lv_aload hx hb dd_C_flow_43 (lv_at hl 0 rfl) ?_
              refine lv_iload_n hx hb dd_C_flow_45 rfl (lv_at hl 4 rfl) ?_
              refine cx_after (cx_rV (n := 1) (As := [.int p2]) (rest := []) ⟨hx, hb, hml, hown, hg⟩ (c_T_upperAt l z D ac sa P t (tv 0 t) (tv 1 t) (tv 2 t) (tv 3 t) (tv 4 t) (tv 5 t) p2 fqt) (cx_gv gm_C_110 gi_T_upperAt gs_T_upperAt gn_T gc_T_upperAt) (by decide +kernel) ⟨by decide, by decide⟩ hK hw fqt rfl rfl hl.1 rfl (Nat.le_of_ble_eq_true rfl) dd_C_flow_46 ⟨by decide, by decide⟩) hw (fun v9 P9 H locs hp hw => ?_)
              obtain ⟨rfl, e9⟩ := hp
              rw [e9] at hw
              clear e9 P9
              refine W.eq (g2 := F0 m 49 ls [.int (su_up (tv 3 t) (tv 4 t) p2)]) rfl ?_
              refine lv_topi (fun x6 ex6 => ?_)
              refine lv_istore (lv' := [(6, .int x6), (5, .ref t), (4, .ref q), (0, .ref h0), (1, .int p1), (2, .int p2), (3, .int p3)]) hx hb dd_C_flow_49 hl (by decide) rfl (fun ls hl => ?_)
              refine lv_aload hx hb dd_C_flow_51 (lv_at hl 1 rfl) ?_
              refine lv_iload_n hx hb dd_C_flow_53 rfl (lv_at hl 5 rfl) ?_
              refine cx_after (cx_rV (n := 1) (As := [.int p2]) (rest := []) ⟨hx, hb, hml, hown, hg⟩ (c_T_lowerAt l z D ac sa P t (tv 0 t) (tv 1 t) (tv 2 t) (tv 3 t) (tv 4 t) (tv 5 t) p2 fqt) (cx_gv gm_C_114 gi_T_lowerAt gs_T_lowerAt gn_T gc_T_lowerAt) (by decide +kernel) ⟨by decide, by decide⟩ hK hw fqt rfl rfl hl.1 rfl (Nat.le_of_ble_eq_true rfl) dd_C_flow_54 ⟨by decide, by decide⟩) hw (fun v9 P9 H locs hp hw => ?_)
              obtain ⟨rfl, e9⟩ := hp
              rw [e9] at hw
              clear e9 P9
              refine W.eq (g2 := F0 m 57 ls [.int (su_lo (tv 3 t) (tv 5 t) p2)]) rfl ?_
              refine lv_topi (fun x7 ex7 => ?_)
              refine lv_istore (lv' := [(7, .int x7), (6, .int x6), (5, .ref t), (4, .ref q), (0, .ref h0), (1, .int p1), (2, .int p2), (3, .int p3)]) hx hb dd_C_flow_57 hl (by decide) rfl (fun ls hl => ?_)
              refine lv_iload_n hx hb dd_C_flow_59 rfl (lv_at hl 7 rfl) ?_
              refine lv_if_ne (tgt := 68) hx hb dd_C_flow_60 (by decide) (fun c8 => ?_) (fun c8 => ?_)
              · skip
                refine lv_iload hx hb dd_C_flow_68 (lv_at hl 0 rfl) ?_
                refine lv_iconst (v := 1) hx hb dd_C_flow_70 (by decide) ?_
                refine lv_iload hx hb dd_C_flow_71 (lv_at hl 1 rfl) ?_
                refine lv_iload hx hb dd_C_flow_73 (lv_at hl 0 rfl) ?_
                refine cx_after (cx_rS (n := 2) (As := [.int x6, .int x7]) (rest := [.int (1 : Int32), .int x7]) ⟨hx, hb, hml, hown, hg⟩ (c_C_commonDivisor l z D ac sa P x6 x7) (cx_gs gm_C_117 gt_C_commonDivisor gn_C gc_C_commonDivisor) (by decide +kernel) ⟨by decide, by decide⟩ hK hw rfl hl.1 rfl (Nat.le_of_ble_eq_true rfl) dd_C_flow_75 ⟨by decide, by decide⟩) hw (fun v9 P9 H locs hp hw => ?_)
                obtain ⟨rfl, e9⟩ := hp
                rw [e9] at hw
                clear e9 P9
                refine W.eq (g2 := F0 m 78 ls [.int (su_gc 64 x6 x7), .int (1 : Int32), .int x7]) rfl ?_
                refine va_mmax hx hb (by rw [hml]; exact hl.1.symm) hown (hg _ gm_C_121) (hg _ gt_N_max) (hg _ gn_Math) (hg _ gc_N_max) (Nat.le_of_ble_eq_true rfl) (Nat.le_of_ble_eq_true rfl) (Nat.le_of_ble_eq_true rfl) (Nat.le_of_ble_eq_true rfl) dd_C_flow_78 ?_
                refine lv_idiv hx hb dd_C_flow_81 su_mx ?_
                refine vx_ret (cx_iret (v := (x7 / (if (1 : Int32) < (su_gc 64 x6 x7) then (su_gc 64 x6 x7) else (1 : Int32)))) hx hb hr rfl hlocks hw dd_C_flow_82 (by decide) (by decide) ?_)
                exact ⟨⟨su_ne hkq, ⟨c1, c2⟩, n4, (fun q8 h8 => by rw [hkq] at h8; cases h8; exact su_ne hct), (fun q8 h8 => by rw [hkq] at h8; cases h8; exact (fun t8 h8 => by rw [hct] at h8; cases h8; exact n5)), trivial⟩, rfl, q, t, hkq, hct, congrArg (fun x => some (Value.int x)) (show (x7 / (if (1 : Int32) < (su_gc 64 x6 x7) then (su_gc 64 x6 x7) else (1 : Int32))) = su_flw (tv 3 t) (tv 4 t) (tv 5 t) p2 p3 from (by rw [ex6, ex7, su_flw, if_neg c8]))⟩
              · skip
                refine lv_iload hx hb dd_C_flow_63 (lv_at hl 1 rfl) ?_
                refine lv_goto (tgt := 70) hx hb dd_C_flow_65 (by decide) ?_
                refine lv_iconst (v := 1) hx hb dd_C_flow_70 (by decide) ?_
                refine lv_iload hx hb dd_C_flow_71 (lv_at hl 1 rfl) ?_
                refine lv_iload hx hb dd_C_flow_73 (lv_at hl 0 rfl) ?_
                refine cx_after (cx_rS (n := 2) (As := [.int x6, .int x7]) (rest := [.int (1 : Int32), .int x6]) ⟨hx, hb, hml, hown, hg⟩ (c_C_commonDivisor l z D ac sa P x6 x7) (cx_gs gm_C_117 gt_C_commonDivisor gn_C gc_C_commonDivisor) (by decide +kernel) ⟨by decide, by decide⟩ hK hw rfl hl.1 rfl (Nat.le_of_ble_eq_true rfl) dd_C_flow_75 ⟨by decide, by decide⟩) hw (fun v9 P9 H locs hp hw => ?_)
                obtain ⟨rfl, e9⟩ := hp
                rw [e9] at hw
                clear e9 P9
                refine W.eq (g2 := F0 m 78 ls [.int (su_gc 64 x6 x7), .int (1 : Int32), .int x6]) rfl ?_
                refine va_mmax hx hb (by rw [hml]; exact hl.1.symm) hown (hg _ gm_C_121) (hg _ gt_N_max) (hg _ gn_Math) (hg _ gc_N_max) (Nat.le_of_ble_eq_true rfl) (Nat.le_of_ble_eq_true rfl) (Nat.le_of_ble_eq_true rfl) (Nat.le_of_ble_eq_true rfl) dd_C_flow_78 ?_
                refine lv_idiv hx hb dd_C_flow_81 su_mx ?_
                refine vx_ret (cx_iret (v := (x6 / (if (1 : Int32) < (su_gc 64 x6 x7) then (su_gc 64 x6 x7) else (1 : Int32)))) hx hb hr rfl hlocks hw dd_C_flow_82 (by decide) (by decide) ?_)
                exact ⟨⟨su_ne hkq, ⟨c1, c2⟩, n4, (fun q8 h8 => by rw [hkq] at h8; cases h8; exact su_ne hct), (fun q8 h8 => by rw [hkq] at h8; cases h8; exact (fun t8 h8 => by rw [hct] at h8; cases h8; exact n5)), trivial⟩, rfl, q, t, hkq, hct, congrArg (fun x => some (Value.int x)) (show (x6 / (if (1 : Int32) < (su_gc 64 x6 x7) then (su_gc 64 x6 x7) else (1 : Int32))) = su_flw (tv 3 t) (tv 4 t) (tv 5 t) p2 p3 from (by rw [ex6, ex7, su_flw, if_pos c8]))⟩
      · skip
        refine cx_thrS (E := xn_IAE) (text := "no such what") hx hb hT (by rw [hml]; exact hl.1.symm) hown hg hK hw (by decide +kernel) gk_C_54 gn_IllegalArgumentException xg_IAE xb_IAE xo_IAE (by decide +kernel) dd_C_flow_16 dd_C_flow_19 dd_C_flow_20 dd_C_flow_22 dd_C_flow_25 hout ⟨by decide, Nat.le_of_ble_eq_true rfl, by decide, by decide⟩ hlocks (by decide) (by decide) ?_
        exact ⟨rfl, Or.inr ⟨su_ne hkq, Or.inl ⟨fun h8 => c2 h8.2, rfl⟩⟩⟩

set_option maxHeartbeats 4000000 in
set_option maxRecDepth 100000 in
theorem c_C_sort (l : Launch) (hT : l.stackTraces = false) (z : Nat) (D : va_G) (ac : Nat → ClassId) (sa : Nat → Nat) (P : pm_T) (h0 aH aT aL aK aW : Nat) (nh nt al : Int32) (fH : Nat → Option Nat) (hv tv ov : Nat → Nat → Int32) (aw : Nat → Nat) (ct : Nat → Option Nat) (fw : Nat → Nat → Option Nat) (p1 : Int32) (fy : hy_W P ac fH hv tv ov aw ct fw) (f0 : P h0 = some (.inr (0, [.ref aH, .ref aT, .ref aL, .ref aK, .ref aW, .int nh, .int nt, .int al]))) (f1 : P aH = some (.inl (ac 3, 40, .inr (.inr (.inr (.inr fH)))))) : cx_V l yy_C_sort bb_C_sort 3 (some .int) ({ frames := 7, cells := 3, slots := 18, locals := 138 } : Room) z D ac sa P [.ref h0, .int p1] (fun v P' => su_al [(¬ su_kn p1 fH = none, xn_IAE), (∀ q, su_kn p1 fH = some q → ¬ ct q = none, xn_ISE), (∀ q, su_kn p1 fH = some q → ∀ t, ct q = some t → ¬ su_lo (tv 3 t) (tv 5 t) 200 ≤ 0, xn_ARE)] ∧ P' = P ∧ ∃ q t, su_kn p1 fH = some q ∧ ct q = some t ∧ v = some (.int (if 3 < su_wh (tv 3 t) (tv 4 t) (tv 5 t) 200 / 500 then 3 else su_wh (tv 3 t) (tv 4 t) (tv 5 t) 200 / 500))) (fun E P' => P' = P ∧ su_xs [(¬ su_kn p1 fH = none, xn_IAE), (∀ q, su_kn p1 fH = some q → ¬ ct q = none, xn_ISE), (∀ q, su_kn p1 fH = some q → ∀ t, ct q = some t → ¬ su_lo (tv 3 t) (tv 5 t) 200 ≤ 0, xn_ARE)] E) := by
  refine cx_ofV (by decide) (Nat.le_of_ble_eq_true rfl) (fun p e s m below meth c ls hx hb hr hml hg hown hlocks hout hK hw hl => ?_)
  have hl : lv_has ls 3 [(0, .ref h0), (1, .int p1)] := hl
  have hown : s.vm.findClass cn_C = some m.cls := hown
  refine lv_aload_n hx hb dd_C_sort_0 rfl (lv_at hl 0 rfl) ?_
  refine lv_iload_n hx hb dd_C_sort_1 rfl (lv_at hl 1 rfl) ?_
  refine cx_afterX (cx_rVX (n := 1) (As := [.int p1]) (rest := []) ⟨hx, hb, hml, hown, hg⟩ (c_C_known l hT z D ac sa P h0 aH aT aL aK aW nh nt al fH p1 f0 f1) (cx_gv gm_C_76 gi_C_known gs_C_known gn_C gc_C_known) (by decide +kernel) ⟨by decide, by decide⟩ hK hw f0 rfl rfl hl.1 rfl (Nat.le_of_ble_eq_true rfl) dd_C_sort_2 ⟨by decide, by decide⟩) hw (fun E9 ce9 q9 P9 H locs hp hw hce hcv hcl => ?_) (fun v9 P9 H locs hp hw => ?_)
  · skip
    obtain ⟨rfl, e9, hn9⟩ := hp
    rw [e9] at hw
    clear e9 P9
    refine cx_pass hout hlocks hce hcv hcl hw ?_ (by decide) (by decide)
    exact ⟨rfl, Or.inl ⟨fun h8 => h8 hn9, rfl⟩⟩
  · skip
    obtain ⟨q, rfl, e9, hkq⟩ := hp
    rw [e9] at hw
    clear e9 P9
    obtain ⟨fqq, fqwq, fovq, ftq⟩ := fy _ q (su_kn_at hkq)
    refine W.eq (g2 := F0 m 5 ls [.ref q]) rfl ?_
    refine cx_afterX (cx_rSX (n := 1) (As := [.ref q]) (rest := []) ⟨hx, hb, hml, hown, hg⟩ (c_C_countingTest l hT z D ac sa P q (aw q) (hv 0 q) (hv 1 q) (hv 2 q) (hv 3 q) (hv 4 q) (hv 6 q) (hv 7 q) (hv 8 q) (hv 9 q) (ct q) fqq) (cx_gs gm_C_102 gt_C_countingTest gn_C gc_C_countingTest) (by decide +kernel) ⟨by decide, by decide⟩ hK hw rfl hl.1 rfl (Nat.le_of_ble_eq_true rfl) dd_C_sort_5 ⟨by decide, by decide⟩) hw (fun E9 ce9 q9 P9 H locs hp hw hce hcv hcl => ?_) (fun v9 P9 H locs hp hw => ?_)
    · skip
      obtain ⟨rfl, e9, hn9⟩ := hp
      rw [e9] at hw
      clear e9 P9
      refine cx_pass hout hlocks hce hcv hcl hw ?_ (by decide) (by decide)
      exact ⟨rfl, Or.inr ⟨su_ne hkq, Or.inl ⟨fun h8 => h8 q hkq hn9, rfl⟩⟩⟩
    · skip
      obtain ⟨t, rfl, e9, hct⟩ := hp
      rw [e9] at hw
      clear e9 P9
      have fqt := ftq t hct
      refine W.eq (g2 := F0 m 8 ls [.ref t]) rfl ?_
      refine lv_astore_n (lv' := [(2, .ref t), (0, .ref h0), (1, .int p1)]) hx hb dd_C_sort_8 rfl hl (by decide) rfl (fun ls hl => ?_)
      refine lv_aload_n hx hb dd_C_sort_9 rfl (lv_at hl 0 rfl) ?_
      refine lv_sipush (v := 200) hx hb dd_C_sort_10 (by decide) ?_
      refine cx_afterX (cx_rSX (n := 2) (As := [.ref t, .int (200 : Int32)]) (rest := []) ⟨hx, hb, hml, hown, hg⟩ (c_C_needTold l hT z D ac sa P t (tv 0 t) (tv 1 t) (tv 2 t) (tv 3 t) (tv 4 t) (tv 5 t) (200 : Int32) fqt) (cx_gs gm_C_106 gt_C_needTold gn_C gc_C_needTold) (by decide +kernel) ⟨by decide, by decide⟩ hK hw rfl hl.1 rfl (Nat.le_of_ble_eq_true rfl) dd_C_sort_13 ⟨by decide, by decide⟩) hw (fun E9 ce9 q9 P9 H locs hp hw hce hcv hcl => ?_) (fun v9 P9 H locs hp hw => ?_)
      · skip
        obtain ⟨rfl, e9, hn9⟩ := hp
        rw [e9] at hw
        clear e9 P9
        refine cx_pass hout hlocks hce hcv hcl hw ?_ (by decide) (by decide)
        exact ⟨rfl, Or.inr ⟨su_ne hkq, Or.inr ⟨(fun q8 h8 => by rw [hkq] at h8; cases h8; exact su_ne hct), Or.inl ⟨fun h8 => h8 q hkq t hct hn9, rfl⟩⟩⟩⟩
      · skip
        obtain ⟨rfl, e9, n1⟩ := hp
        rw [e9] at hw
        clear e9 P9
        refine W.eq (g2 := F0 m 16 ls []) rfl ?_
        refine lv_aload_n hx hb dd_C_sort_16 rfl (lv_at hl 0 rfl) ?_
        refine lv_sipush (v := 200) hx hb dd_C_sort_17 (by decide) ?_
        refine cx_after (cx_rV (n := 1) (As := [.int (200 : Int32)]) (rest := []) ⟨hx, hb, hml, hown, hg⟩ (c_T_wholeAt l z D ac sa P t (tv 0 t) (tv 1 t) (tv 2 t) (tv 3 t) (tv 4 t) (tv 5 t) (200 : Int32) fqt) (cx_gv gm_C_126 gi_T_wholeAt gs_T_wholeAt gn_T gc_T_wholeAt) (by decide +kernel) ⟨by decide, by decide⟩ hK hw fqt rfl rfl hl.1 rfl (Nat.le_of_ble_eq_true rfl) dd_C_sort_20 ⟨by decide, by decide⟩) hw (fun v9 P9 H locs hp hw => ?_)
        obtain ⟨rfl, e9⟩ := hp
        rw [e9] at hw
        clear e9 P9
        refine W.eq (g2 := F0 m 23 ls [.int (su_wh (tv 3 t) (tv 4 t) (tv 5 t) (200 : Int32))]) rfl ?_
        refine lv_sipush (v := 500) hx hb dd_C_sort_23 (by decide) ?_
        refine lv_idiv hx hb dd_C_sort_26 (by decide) ?_
        refine lv_iconst (v := 3) hx hb dd_C_sort_27 (by decide) ?_
        refine va_mmin hx hb (by rw [hml]; exact hl.1.symm) hown (hg _ gm_C_129) (hg _ gt_N_min) (hg _ gn_Math) (hg _ gc_N_min) (Nat.le_of_ble_eq_true rfl) (Nat.le_of_ble_eq_true rfl) (Nat.le_of_ble_eq_true rfl) (Nat.le_of_ble_eq_true rfl) dd_C_sort_28 ?_
        refine vx_ret (cx_iret (v := (if (3 : Int32) < ((su_wh (tv 3 t) (tv 4 t) (tv 5 t) (200 : Int32)) / (500 : Int32)) then (3 : Int32) else ((su_wh (tv 3 t) (tv 4 t) (tv 5 t) (200 : Int32)) / (500 : Int32)))) hx hb hr rfl hlocks hw dd_C_sort_31 (by decide) (by decide) ?_)
        exact ⟨⟨su_ne hkq, (fun q8 h8 => by rw [hkq] at h8; cases h8; exact su_ne hct), (fun q8 h8 => by rw [hkq] at h8; cases h8; exact (fun t8 h8 => by rw [hct] at h8; cases h8; exact n1)), trivial⟩, rfl, q, t, hkq, hct, rfl⟩

set_option maxHeartbeats 4000000 in
set_option maxRecDepth 100000 in
theorem c_C_defect (l : Launch) (hT : l.stackTraces = false) (z : Nat) (D : va_G) (ac : Nat → ClassId) (sa : Nat → Nat) (P : pm_T) (h0 aH aT aL aK aW : Nat) (nh nt al : Int32) (fH : Nat → Option Nat) (hv tv ov : Nat → Nat → Int32) (aw : Nat → Nat) (ct : Nat → Option Nat) (fw : Nat → Nat → Option Nat) (p1 p2 : Int32) (fy : hy_W P ac fH hv tv ov aw ct fw) (f0 : P h0 = some (.inr (0, [.ref aH, .ref aT, .ref aL, .ref aK, .ref aW, .int nh, .int nt, .int al]))) (f1 : P aH = some (.inl (ac 3, 40, .inr (.inr (.inr (.inr fH)))))) : cx_V l yy_C_defect bb_C_defect 4 none ({ frames := 7, cells := 2, slots := 12, locals := 138 } : Room) z D ac sa P [.ref h0, .int p1, .int p2] (fun v P' => su_al [(¬ su_kn p1 fH = none, xn_IAE), (¬ p2 < 0 ∧ p2 ≤ 2, xn_IOB)] ∧ v = none ∧ ∃ q, su_kn p1 fH = some q ∧ P' = pm_up P q (.inr (1, [.int (hv 0 q), .int (hv 1 q), .int (hv 2 q), .int (hv 3 q), .int (hv 4 q), .ref (aw q), .int (hv 6 q), .int p2, .int (hv 8 q), .int (hv 9 q), va_rf (ct q)]))) (fun E P' => P' = P ∧ su_xs [(¬ su_kn p1 fH = none, xn_IAE), (¬ p2 < 0 ∧ p2 ≤ 2, xn_IOB)] E) := by
  refine cx_ofV (by decide) (Nat.le_of_ble_eq_true rfl) (fun p e s m below meth c ls hx hb hr hml hg hown hlocks hout hK hw hl => ?_)
  have hl : lv_has ls 4 [(0, .ref h0), (1, .int p1), (2, .int p2)] := hl
  have hown : s.vm.findClass cn_C = some m.cls := hown
  refine lv_aload_n hx hb dd_C_defect_0 rfl (lv_at hl 0 rfl) ?_
  refine lv_iload_n hx hb dd_C_defect_1 rfl (lv_at hl 1 rfl) ?_
  refine cx_afterX (cx_rVX (n := 1) (As := [.int p1]) (rest := []) ⟨hx, hb, hml, hown, hg⟩ (c_C_known l hT z D ac sa P h0 aH aT aL aK aW nh nt al fH p1 f0 f1) (cx_gv gm_C_76 gi_C_known gs_C_known gn_C gc_C_known) (by decide +kernel) ⟨by decide, by decide⟩ hK hw f0 rfl rfl hl.1 rfl (Nat.le_of_ble_eq_true rfl) dd_C_defect_2 ⟨by decide, by decide⟩) hw (fun E9 ce9 q9 P9 H locs hp hw hce hcv hcl => ?_) (fun v9 P9 H locs hp hw => ?_)
  · skip
    obtain ⟨rfl, e9, hn9⟩ := hp
    rw [e9] at hw
    clear e9 P9
    refine cx_pass hout hlocks hce hcv hcl hw ?_ (by decide) (by decide)
    exact ⟨rfl, Or.inl ⟨fun h8 => h8 hn9, rfl⟩⟩
  · skip
    obtain ⟨q, rfl, e9, hkq⟩ := hp
    rw [e9] at hw
    clear e9 P9
    obtain ⟨fqq, fqwq, fovq, ftq⟩ := fy _ q (su_kn_at hkq)
    refine W.eq (g2 := F0 m 5 ls [.ref q]) rfl ?_
    refine lv_astore_n (lv' := [(3, .ref q), (0, .ref h0), (1, .int p1), (2, .int p2)]) hx hb dd_C_defect_5 rfl hl (by decide) rfl (fun ls hl => ?_)
    refine lv_iload_n hx hb dd_C_defect_6 rfl (lv_at hl 3 rfl) ?_
    refine lv_if_lt (tgt := 15) hx hb dd_C_defect_7 (by decide) (fun c1 => ?_) (fun c1 => ?_)
    · skip
      refine cx_thrS (E := xn_IOB) (text := "no such defect") hx hb hT (by rw [hml]; exact hl.1.symm) hown hg hK hw (by decide +kernel) gk_C_132 gn_IndexOutOfBoundsException xg_IOB xb_IOB xo_IOB (by decide +kernel) dd_C_defect_15 dd_C_defect_18 dd_C_defect_19 dd_C_defect_21 dd_C_defect_24 hout ⟨by decide, Nat.le_of_ble_eq_true rfl, by decide, by decide⟩ hlocks (by decide) (by decide) ?_
      exact ⟨rfl, Or.inr ⟨su_ne hkq, Or.inl ⟨fun h8 => h8.1 c1, rfl⟩⟩⟩
    · skip
      refine lv_iload_n hx hb dd_C_defect_10 rfl (lv_at hl 3 rfl) ?_
      refine lv_iconst (v := 2) hx hb dd_C_defect_11 (by decide) ?_
      refine lv_icmp_le (tgt := 25) hx hb dd_C_defect_12 (by decide) (fun c2 => ?_) (fun c2 => ?_)
      · skip
        refine lv_aload_n hx hb dd_C_defect_25 rfl (lv_at hl 0 rfl) ?_
        refine lv_iload_n hx hb dd_C_defect_26 rfl (lv_at hl 3 rfl) ?_
        refine pm_put (ci := 1) (v := .int p2) (ty := .int) (C := cn_H) (T := cf_H) (N := 11) hx hb hg gu_H ct_H co_H cm_H hown hK.2.1 hw fqq rfl 7 (by decide) (hg _ gf_C_137) (fun _ h9 => h9) rfl (by decide +kernel) rfl rfl (Nat.le_of_ble_eq_true rfl) dd_C_defect_27 (fun H locs hw => ?_)
        have hw : pm_W z D cl_w (pm_up P q (.inr (1, [.int (hv 0 q), .int (hv 1 q), .int (hv 2 q), .int (hv 3 q), .int (hv 4 q), .ref (aw q), .int (hv 6 q), .int p2, .int (hv 8 q), .int (hv 9 q), va_rf (ct q)]))) s.heap H _ := hw
        obtain ⟨P3, eP3⟩ : ∃ pmv : pm_T, pmv = pm_up P q (.inr (1, [.int (hv 0 q), .int (hv 1 q), .int (hv 2 q), .int (hv 3 q), .int (hv 4 q), .ref (aw q), .int (hv 6 q), .int p2, .int (hv 8 q), .int (hv 9 q), va_rf (ct q)])) := ⟨_, rfl⟩
        rw [← eP3] at hw
        have f4 : P3 h0 = some (.inr (0, [.ref aH, .ref aT, .ref aL, .ref aK, .ref aW, .int nh, .int nt, .int al])) := by rw [eP3, pm_n (pm_ne f0 fqq (by simp))]; exact f0
        have f5 : P3 aH = some (.inl (ac 3, 40, .inr (.inr (.inr (.inr fH))))) := by rw [eP3, pm_n (pm_ne f1 fqq (by simp))]; exact f1
        have f6 : P3 (aw q) = some (.inl (ac 5, 3, .inr (.inr (.inr (.inr (fw q)))))) := by rw [eP3, pm_n (pm_ne fqwq fqq (by simp))]; exact fqwq
        have f7 : P3 q = some (.inr (1, [.int (hv 0 q), .int (hv 1 q), .int (hv 2 q), .int (hv 3 q), .int (hv 4 q), .ref (aw q), .int (hv 6 q), .int p2, .int (hv 8 q), .int (hv 9 q), va_rf (ct q)])) := by rw [eP3]; exact pm_s
        refine vx_ret (cx_vret hx hb hr hlocks hw dd_C_defect_30 (by decide) (by decide) ?_)
        exact ⟨⟨su_ne hkq, ⟨c1, c2⟩, trivial⟩, rfl, q, hkq, eP3⟩
      · skip
        refine cx_thrS (E := xn_IOB) (text := "no such defect") hx hb hT (by rw [hml]; exact hl.1.symm) hown hg hK hw (by decide +kernel) gk_C_132 gn_IndexOutOfBoundsException xg_IOB xb_IOB xo_IOB (by decide +kernel) dd_C_defect_15 dd_C_defect_18 dd_C_defect_19 dd_C_defect_21 dd_C_defect_24 hout ⟨by decide, Nat.le_of_ble_eq_true rfl, by decide, by decide⟩ hlocks (by decide) (by decide) ?_
        exact ⟨rfl, Or.inr ⟨su_ne hkq, Or.inl ⟨fun h8 => c2 h8.2, rfl⟩⟩⟩

theorem su_us01 {vd vk vr al d : Int32} {wf wt : Nat → Int32} {fw : Nat → Option Nat} : narrow .boolean (.int (su_us vd vk vr al d wf wt fw)) = .int (su_us vd vk vr al d wf wt fw) := by
  unfold su_us
  by_cases h1 : vd = 2
  · rw [if_pos h1]; decide
  · rw [if_neg h1]
    by_cases h2 : vk = 1 ∧ al = 0
    · rw [if_pos h2]; decide
    · rw [if_neg h2]
      by_cases h3 : su_dry vr d = 0
      · rw [if_pos h3]
        by_cases h4 : su_m3 wf wt d d fw = 0
        · rw [if_pos h4]; decide
        · rw [if_neg h4]; decide
      · rw [if_neg h3]; decide

set_option maxHeartbeats 4000000 in
set_option maxRecDepth 100000 in
theorem c_C_usable (l : Launch) (hT : l.stackTraces = false) (z : Nat) (D : va_G) (ac : Nat → ClassId) (sa : Nat → Nat) (P : pm_T) (h0 aH aT aL aK aW : Nat) (nh nt al : Int32) (fH : Nat → Option Nat) (hv tv ov : Nat → Nat → Int32) (aw : Nat → Nat) (ct : Nat → Option Nat) (fw : Nat → Nat → Option Nat) (p1 p2 : Int32) (fy : hy_W P ac fH hv tv ov aw ct fw) (f0 : P h0 = some (.inr (0, [.ref aH, .ref aT, .ref aL, .ref aK, .ref aW, .int nh, .int nt, .int al]))) (f1 : P aH = some (.inl (ac 3, 40, .inr (.inr (.inr (.inr fH)))))) : cx_V l yy_C_usable bb_C_usable 4 (some .boolean) ({ frames := 7, cells := 2, slots := 12, locals := 138 } : Room) z D ac sa P [.ref h0, .int p1, .int p2] (fun v P' => su_al [(¬ su_kn p1 fH = none, xn_IAE), (su_day p2, xn_IOB)] ∧ P' = P ∧ ∃ q, su_kn p1 fH = some q ∧ v = some (.int (su_us (hv 7 q) (hv 4 q) (hv 8 q) al p2 (ov 0) (ov 1) (fw q)))) (fun E P' => P' = P ∧ su_xs [(¬ su_kn p1 fH = none, xn_IAE), (su_day p2, xn_IOB)] E) := by
  refine cx_ofV (by decide) (Nat.le_of_ble_eq_true rfl) (fun p e s m below meth c ls hx hb hr hml hg hown hlocks hout hK hw hl => ?_)
  have hl : lv_has ls 4 [(0, .ref h0), (1, .int p1), (2, .int p2)] := hl
  have hown : s.vm.findClass cn_C = some m.cls := hown
  refine lv_aload_n hx hb dd_C_usable_0 rfl (lv_at hl 0 rfl) ?_
  refine lv_iload_n hx hb dd_C_usable_1 rfl (lv_at hl 1 rfl) ?_
  refine cx_afterX (cx_rVX (n := 1) (As := [.int p1]) (rest := []) ⟨hx, hb, hml, hown, hg⟩ (c_C_known l hT z D ac sa P h0 aH aT aL aK aW nh nt al fH p1 f0 f1) (cx_gv gm_C_76 gi_C_known gs_C_known gn_C gc_C_known) (by decide +kernel) ⟨by decide, by decide⟩ hK hw f0 rfl rfl hl.1 rfl (Nat.le_of_ble_eq_true rfl) dd_C_usable_2 ⟨by decide, by decide⟩) hw (fun E9 ce9 q9 P9 H locs hp hw hce hcv hcl => ?_) (fun v9 P9 H locs hp hw => ?_)
  · skip
    obtain ⟨rfl, e9, hn9⟩ := hp
    rw [e9] at hw
    clear e9 P9
    refine cx_pass hout hlocks hce hcv hcl hw ?_ (by decide) (by decide)
    exact ⟨rfl, Or.inl ⟨fun h8 => h8 hn9, rfl⟩⟩
  · skip
    obtain ⟨q, rfl, e9, hkq⟩ := hp
    rw [e9] at hw
    clear e9 P9
    obtain ⟨fqq, fqwq, fovq, ftq⟩ := fy _ q (su_kn_at hkq)
    refine W.eq (g2 := F0 m 5 ls [.ref q]) rfl ?_
    refine lv_astore_n (lv' := [(3, .ref q), (0, .ref h0), (1, .int p1), (2, .int p2)]) hx hb dd_C_usable_5 rfl hl (by decide) rfl (fun ls hl => ?_)
    refine lv_iload_n hx hb dd_C_usable_6 rfl (lv_at hl 3 rfl) ?_
    refine cx_afterX (cx_rSX (n := 1) (As := [.int p2]) (rest := []) ⟨hx, hb, hml, hown, hg⟩ (c_C_needDay l hT z D ac sa P p2) (cx_gs gm_C_80 gt_C_needDay gn_C gc_C_needDay) (by decide +kernel) ⟨by decide, by decide⟩ hK hw rfl hl.1 rfl (Nat.le_of_ble_eq_true rfl) dd_C_usable_7 ⟨by decide, by decide⟩) hw (fun E9 ce9 q9 P9 H locs hp hw hce hcv hcl => ?_) (fun v9 P9 H locs hp hw => ?_)
    · skip
      obtain ⟨rfl, e9, n1⟩ := hp
      rw [e9] at hw
      clear e9 P9
      refine cx_pass hout hlocks hce hcv hcl hw ?_ (by decide) (by decide)
      exact ⟨rfl, Or.inr ⟨su_ne hkq, Or.inl ⟨n1, rfl⟩⟩⟩
    · skip
      obtain ⟨rfl, e9, n2⟩ := hp
      rw [e9] at hw
      clear e9 P9
      refine W.eq (g2 := F0 m 10 ls []) rfl ?_
      refine lv_aload_n hx hb dd_C_usable_10 rfl (lv_at hl 0 rfl) ?_
      refine lv_iload_n hx hb dd_C_usable_11 rfl (lv_at hl 3 rfl) ?_
      refine lv_aload_n hx hb dd_C_usable_12 rfl (lv_at hl 1 rfl) ?_
      refine pm_get (ci := 0) (C := cn_C) (T := cf_C) (N := 8) (v := .int al) hx hb hg gu_C hown hK.2.1 hw f0 rfl 7 (by decide) (hg _ gf_C_46) (fun _ h9 => h9) rfl dd_C_usable_13 ?_
      refine cx_after (cx_rV (n := 2) (As := [.int p2, .int al]) (rest := []) ⟨hx, hb, hml, hown, hg⟩ (c_H_isUsable l z D ac sa P q (aw q) (hv 0 q) (hv 1 q) (hv 2 q) (hv 3 q) (hv 4 q) (hv 6 q) (hv 7 q) (hv 8 q) (hv 9 q) (ct q)  (ov 0) (ov 1) (fw q) p2 al fovq fqq fqwq) (cx_gv gm_C_164 gi_H_isUsable gs_H_isUsable gn_H gc_H_isUsable) (by decide +kernel) ⟨by decide, by decide⟩ hK hw fqq rfl rfl hl.1 rfl (Nat.le_of_ble_eq_true rfl) dd_C_usable_16 ⟨by decide, by decide⟩) hw (fun v9 P9 H locs hp hw => ?_)
      obtain ⟨rfl, e9⟩ := hp
      rw [e9] at hw
      clear e9 P9
      refine W.eq (g2 := F0 m 19 ls [.int (su_us (hv 7 q) (hv 4 q) (hv 8 q) al p2 (ov 0) (ov 1) (fw q))]) rfl ?_
      refine vx_ret (cx_iret (v := (su_us (hv 7 q) (hv 4 q) (hv 8 q) al p2 (ov 0) (ov 1) (fw q))) hx hb hr (su_us01) hlocks hw dd_C_usable_19 (by decide) (by decide) ?_)
      exact ⟨⟨su_ne hkq, n2, trivial⟩, rfl, q, hkq, rfl⟩

set_option maxHeartbeats 4000000 in
set_option maxRecDepth 100000 in
theorem c_C_season (l : Launch) (hT : l.stackTraces = false) (z : Nat) (D : va_G) (ac : Nat → ClassId) (sa : Nat → Nat) (P : pm_T) (h0 aH aT aL aK aW : Nat) (nh nt al : Int32) (fH : Nat → Option Nat) (hv tv ov : Nat → Nat → Int32) (aw : Nat → Nat) (ct : Nat → Option Nat) (fw : Nat → Nat → Option Nat) (p1 p2 p3 : Int32) (fy : hy_W P ac fH hv tv ov aw ct fw) (f0 : P h0 = some (.inr (0, [.ref aH, .ref aT, .ref aL, .ref aK, .ref aW, .int nh, .int nt, .int al]))) (f1 : P aH = some (.inl (ac 3, 40, .inr (.inr (.inr (.inr fH)))))) : cx_V l yy_C_season bb_C_season 5 none ({ frames := 7, cells := 3, slots := 18, locals := 138 } : Room) z D ac sa P [.ref h0, .int p1, .int p2, .int p3] (fun v P' => su_al [(¬ su_kn p1 fH = none, xn_IAE), (¬ p2 < 0 ∧ p2 < 12, xn_IOB), (∀ q, su_kn p1 fH = some q → hv 4 q = 2, xn_ISE)] ∧ v = none ∧ ∃ q, su_kn p1 fH = some q ∧ P' = pm_up P q (.inr (1, [.int (hv 0 q), .int (hv 1 q), .int (hv 2 q), .int (hv 3 q), .int (hv 4 q), .ref (aw q), .int (hv 6 q), .int (hv 7 q), .int (su_set (hv 8 q) p2 p3), .int (hv 9 q), va_rf (ct q)]))) (fun E P' => P' = P ∧ su_xs [(¬ su_kn p1 fH = none, xn_IAE), (¬ p2 < 0 ∧ p2 < 12, xn_IOB), (∀ q, su_kn p1 fH = some q → hv 4 q = 2, xn_ISE)] E) := by
  refine cx_ofV (by decide) (Nat.le_of_ble_eq_true rfl) (fun p e s m below meth c ls hx hb hr hml hg hown hlocks hout hK hw hl => ?_)
  have hl : lv_has ls 5 [(0, .ref h0), (1, .int p1), (2, .int p2), (3, .int p3)] := hl
  have hown : s.vm.findClass cn_C = some m.cls := hown
  refine lv_aload_n hx hb dd_C_season_0 rfl (lv_at hl 0 rfl) ?_
  refine lv_iload_n hx hb dd_C_season_1 rfl (lv_at hl 1 rfl) ?_
  refine cx_afterX (cx_rVX (n := 1) (As := [.int p1]) (rest := []) ⟨hx, hb, hml, hown, hg⟩ (c_C_known l hT z D ac sa P h0 aH aT aL aK aW nh nt al fH p1 f0 f1) (cx_gv gm_C_76 gi_C_known gs_C_known gn_C gc_C_known) (by decide +kernel) ⟨by decide, by decide⟩ hK hw f0 rfl rfl hl.1 rfl (Nat.le_of_ble_eq_true rfl) dd_C_season_2 ⟨by decide, by decide⟩) hw (fun E9 ce9 q9 P9 H locs hp hw hce hcv hcl => ?_) (fun v9 P9 H locs hp hw => ?_)
  · skip
    obtain ⟨rfl, e9, hn9⟩ := hp
    rw [e9] at hw
    clear e9 P9
    refine cx_pass hout hlocks hce hcv hcl hw ?_ (by decide) (by decide)
    exact ⟨rfl, Or.inl ⟨fun h8 => h8 hn9, rfl⟩⟩
  · skip
    obtain ⟨q, rfl, e9, hkq⟩ := hp
    rw [e9] at hw
    clear e9 P9
    obtain ⟨fqq, fqwq, fovq, ftq⟩ := fy _ q (su_kn_at hkq)
    refine W.eq (g2 := F0 m 5 ls [.ref q]) rfl ?_
    refine lv_astore (lv' := [(4, .ref q), (0, .ref h0), (1, .int p1), (2, .int p2), (3, .int p3)]) hx hb dd_C_season_5 hl (by decide) rfl (fun ls hl => ?_)
    refine lv_iload_n hx hb dd_C_season_7 rfl (lv_at hl 3 rfl) ?_
    refine lv_if_lt (tgt := 17) hx hb dd_C_season_8 (by decide) (fun c1 => ?_) (fun c1 => ?_)
    · skip
      refine cx_thrS (E := xn_IOB) (text := "no such month") hx hb hT (by rw [hml]; exact hl.1.symm) hown hg hK hw (by decide +kernel) gk_C_132 gn_IndexOutOfBoundsException xg_IOB xb_IOB xo_IOB (by decide +kernel) dd_C_season_17 dd_C_season_20 dd_C_season_21 dd_C_season_23 dd_C_season_26 hout ⟨by decide, Nat.le_of_ble_eq_true rfl, by decide, by decide⟩ hlocks (by decide) (by decide) ?_
      exact ⟨rfl, Or.inr ⟨su_ne hkq, Or.inl ⟨fun h8 => h8.1 c1, rfl⟩⟩⟩
    · skip
      refine lv_iload_n hx hb dd_C_season_11 rfl (lv_at hl 3 rfl) ?_
      refine lv_bipush (v := 12) hx hb dd_C_season_12 (by decide) ?_
      refine lv_icmp_lt (tgt := 27) hx hb dd_C_season_14 (by decide) (fun c2 => ?_) (fun c2 => ?_)
      · skip
        refine lv_aload hx hb dd_C_season_27 (lv_at hl 0 rfl) ?_
        refine pm_get (ci := 1) (C := cn_H) (T := cf_H) (N := 11) (v := .int (hv 4 q)) hx hb hg gu_H hown hK.2.1 hw fqq rfl 4 (by decide) (hg _ gf_C_155) (fun _ h9 => h9) rfl dd_C_season_29 ?_
        refine lv_iconst (v := 2) hx hb dd_C_season_32 (by decide) ?_
        refine lv_icmp_eq (tgt := 46) hx hb dd_C_season_33 (by decide) (fun c3 => ?_) (fun c3 => ?_)
        · skip
          refine lv_aload hx hb dd_C_season_46 (lv_at hl 0 rfl) ?_
          refine lv_iload_n hx hb dd_C_season_48 rfl (lv_at hl 3 rfl) ?_
          refine lv_iload_n hx hb dd_C_season_49 rfl (lv_at hl 4 rfl) ?_
          refine cx_after (cx_rV (n := 2) (As := [.int p2, .int p3]) (rest := []) ⟨hx, hb, hml, hown, hg⟩ (c_H_setDry l z D ac sa P q (aw q) (hv 0 q) (hv 1 q) (hv 2 q) (hv 3 q) (hv 4 q) (hv 6 q) (hv 7 q) (hv 8 q) (hv 9 q) (ct q) p2 p3 fqq) (cx_gv gm_C_160 gi_H_setDry gs_H_setDry gn_H gc_H_setDry) (by decide +kernel) ⟨by decide, by decide⟩ hK hw fqq rfl rfl hl.1 rfl (Nat.le_of_ble_eq_true rfl) dd_C_season_50 ⟨by decide, by decide⟩) hw (fun v9 P9 H locs hp hw => ?_)
          obtain ⟨rfl, e9⟩ := hp
          refine W.eq (g2 := F0 m 53 ls []) rfl ?_
          refine vx_ret (cx_vret hx hb hr hlocks hw dd_C_season_53 (by decide) (by decide) ?_)
          exact ⟨⟨su_ne hkq, ⟨c1, c2⟩, (fun q8 h8 => by rw [hkq] at h8; cases h8; exact c3), trivial⟩, rfl, q, hkq, e9⟩
        · skip
          refine cx_thrS (E := xn_ISE) (text := "it is no other water") hx hb hT (by rw [hml]; exact hl.1.symm) hown hg hK hw (by decide +kernel) gk_C_86 gn_IllegalStateException xg_ISE xb_ISE xo_ISE (by decide +kernel) dd_C_season_36 dd_C_season_39 dd_C_season_40 dd_C_season_42 dd_C_season_45 hout ⟨by decide, Nat.le_of_ble_eq_true rfl, by decide, by decide⟩ hlocks (by decide) (by decide) ?_
          exact ⟨rfl, Or.inr ⟨su_ne hkq, Or.inr ⟨⟨c1, c2⟩, Or.inl ⟨fun h8 => c3 (h8 q hkq), rfl⟩⟩⟩⟩
      · skip
        refine cx_thrS (E := xn_IOB) (text := "no such month") hx hb hT (by rw [hml]; exact hl.1.symm) hown hg hK hw (by decide +kernel) gk_C_132 gn_IndexOutOfBoundsException xg_IOB xb_IOB xo_IOB (by decide +kernel) dd_C_season_17 dd_C_season_20 dd_C_season_21 dd_C_season_23 dd_C_season_26 hout ⟨by decide, Nat.le_of_ble_eq_true rfl, by decide, by decide⟩ hlocks (by decide) (by decide) ?_
        exact ⟨rfl, Or.inr ⟨su_ne hkq, Or.inl ⟨fun h8 => c2 h8.2, rfl⟩⟩⟩

set_option maxHeartbeats 4000000 in
set_option maxRecDepth 100000 in
theorem c_C_works (l : Launch) (hT : l.stackTraces = false) (z : Nat) (D : va_G) (ac : Nat → ClassId) (sa : Nat → Nat) (P : pm_T) (h0 aH aT aL aK aW : Nat) (nh nt al : Int32) (fH : Nat → Option Nat) (hv tv ov : Nat → Nat → Int32) (aw : Nat → Nat) (ct : Nat → Option Nat) (fw : Nat → Nat → Option Nat) (p1 p2 p3 : Int32) (fy : hy_W P ac fH hv tv ov aw ct fw) (f0 : P h0 = some (.inr (0, [.ref aH, .ref aT, .ref aL, .ref aK, .ref aW, .int nh, .int nt, .int al]))) (f1 : P aH = some (.inl (ac 3, 40, .inr (.inr (.inr (.inr fH)))))) : cx_V l yy_C_works bb_C_works 5 none ({ frames := 7, cells := 6, slots := 36, locals := 138 } : Room) z D ac sa P [.ref h0, .int p1, .int p2, .int p3] (fun v P' => su_al [(¬ su_kn p1 fH = none, xn_IAE), (su_day p2, xn_IOB), (su_day p3, xn_IOB), (p2 ≤ p3, xn_IOB), (∀ q, su_kn p1 fH = some q → su_m3 (ov 0) (ov 1) p2 p3 (fw q) = 0, xn_ISE), (∀ q, su_kn p1 fH = some q → ¬ hv 6 q < 0 ∧ hv 6 q < 3, xn_UOE)] ∧ v = none ∧ ∃ q o, su_kn p1 fH = some q ∧ P o = none ∧ P' = pm_up (pm_up (pm_up P o (.inr (3, [.int p2, .int p3]))) (aw q) (.inl (ac 5, 3, .inr (.inr (.inr (.inr (va_up (fw q) (hv 6 q).toNatClampNeg (some o)))))))) q (.inr (1, [.int (hv 0 q), .int (hv 1 q), .int (hv 2 q), .int (hv 3 q), .int (hv 4 q), .ref (aw q), .int (hv 6 q + 1), .int (hv 7 q), .int (hv 8 q), .int (hv 9 q), va_rf (ct q)]))) (fun E P' => P' = P ∧ su_xs [(¬ su_kn p1 fH = none, xn_IAE), (su_day p2, xn_IOB), (su_day p3, xn_IOB), (p2 ≤ p3, xn_IOB), (∀ q, su_kn p1 fH = some q → su_m3 (ov 0) (ov 1) p2 p3 (fw q) = 0, xn_ISE), (∀ q, su_kn p1 fH = some q → ¬ hv 6 q < 0 ∧ hv 6 q < 3, xn_UOE)] E) := by
  refine cx_ofV (by decide) (Nat.le_of_ble_eq_true rfl) (fun p e s m below meth c ls hx hb hr hml hg hown hlocks hout hK hw hl => ?_)
  have hl : lv_has ls 5 [(0, .ref h0), (1, .int p1), (2, .int p2), (3, .int p3)] := hl
  have hown : s.vm.findClass cn_C = some m.cls := hown
  refine lv_aload_n hx hb dd_C_works_0 rfl (lv_at hl 0 rfl) ?_
  refine lv_iload_n hx hb dd_C_works_1 rfl (lv_at hl 1 rfl) ?_
  refine cx_afterX (cx_rVX (n := 1) (As := [.int p1]) (rest := []) ⟨hx, hb, hml, hown, hg⟩ (c_C_known l hT z D ac sa P h0 aH aT aL aK aW nh nt al fH p1 f0 f1) (cx_gv gm_C_76 gi_C_known gs_C_known gn_C gc_C_known) (by decide +kernel) ⟨by decide, by decide⟩ hK hw f0 rfl rfl hl.1 rfl (Nat.le_of_ble_eq_true rfl) dd_C_works_2 ⟨by decide, by decide⟩) hw (fun E9 ce9 q9 P9 H locs hp hw hce hcv hcl => ?_) (fun v9 P9 H locs hp hw => ?_)
  · skip
    obtain ⟨rfl, e9, hn9⟩ := hp
    rw [e9] at hw
    clear e9 P9
    refine cx_pass hout hlocks hce hcv hcl hw ?_ (by decide) (by decide)
    exact ⟨rfl, Or.inl ⟨fun h8 => h8 hn9, rfl⟩⟩
  · skip
    obtain ⟨q, rfl, e9, hkq⟩ := hp
    rw [e9] at hw
    clear e9 P9
    obtain ⟨fqq, fqwq, fovq, ftq⟩ := fy _ q (su_kn_at hkq)
    refine W.eq (g2 := F0 m 5 ls [.ref q]) rfl ?_
    refine lv_astore (lv' := [(4, .ref q), (0, .ref h0), (1, .int p1), (2, .int p2), (3, .int p3)]) hx hb dd_C_works_5 hl (by decide) rfl (fun ls hl => ?_)
    refine lv_iload_n hx hb dd_C_works_7 rfl (lv_at hl 3 rfl) ?_
    refine cx_afterX (cx_rSX (n := 1) (As := [.int p2]) (rest := []) ⟨hx, hb, hml, hown, hg⟩ (c_C_needDay l hT z D ac sa P p2) (cx_gs gm_C_80 gt_C_needDay gn_C gc_C_needDay) (by decide +kernel) ⟨by decide, by decide⟩ hK hw rfl hl.1 rfl (Nat.le_of_ble_eq_true rfl) dd_C_works_8 ⟨by decide, by decide⟩) hw (fun E9 ce9 q9 P9 H locs hp hw hce hcv hcl => ?_) (fun v9 P9 H locs hp hw => ?_)
    · skip
      obtain ⟨rfl, e9, n1⟩ := hp
      rw [e9] at hw
      clear e9 P9
      refine cx_pass hout hlocks hce hcv hcl hw ?_ (by decide) (by decide)
      exact ⟨rfl, Or.inr ⟨su_ne hkq, Or.inl ⟨n1, rfl⟩⟩⟩
    · skip
      obtain ⟨rfl, e9, n2⟩ := hp
      rw [e9] at hw
      clear e9 P9
      refine W.eq (g2 := F0 m 11 ls []) rfl ?_
      refine lv_iload_n hx hb dd_C_works_11 rfl (lv_at hl 4 rfl) ?_
      refine cx_afterX (cx_rSX (n := 1) (As := [.int p3]) (rest := []) ⟨hx, hb, hml, hown, hg⟩ (c_C_needDay l hT z D ac sa P p3) (cx_gs gm_C_80 gt_C_needDay gn_C gc_C_needDay) (by decide +kernel) ⟨by decide, by decide⟩ hK hw rfl hl.1 rfl (Nat.le_of_ble_eq_true rfl) dd_C_works_12 ⟨by decide, by decide⟩) hw (fun E9 ce9 q9 P9 H locs hp hw hce hcv hcl => ?_) (fun v9 P9 H locs hp hw => ?_)
      · skip
        obtain ⟨rfl, e9, n3⟩ := hp
        rw [e9] at hw
        clear e9 P9
        refine cx_pass hout hlocks hce hcv hcl hw ?_ (by decide) (by decide)
        exact ⟨rfl, Or.inr ⟨su_ne hkq, Or.inr ⟨n2, Or.inl ⟨n3, rfl⟩⟩⟩⟩
      · skip
        obtain ⟨rfl, e9, n4⟩ := hp
        rw [e9] at hw
        clear e9 P9
        refine W.eq (g2 := F0 m 15 ls []) rfl ?_
        refine lv_iload_n hx hb dd_C_works_15 rfl (lv_at hl 4 rfl) ?_
        refine lv_iload_n hx hb dd_C_works_16 rfl (lv_at hl 3 rfl) ?_
        refine lv_icmp_ge (tgt := 30) hx hb dd_C_works_17 (by decide) (fun c5 => ?_) (fun c5 => ?_)
        · skip
          refine lv_aload hx hb dd_C_works_30 (lv_at hl 0 rfl) ?_
          refine lv_iload_n hx hb dd_C_works_32 rfl (lv_at hl 3 rfl) ?_
          refine lv_iload_n hx hb dd_C_works_33 rfl (lv_at hl 4 rfl) ?_
          refine cx_after (cx_rV (n := 2) (As := [.int p2, .int p3]) (rest := []) ⟨hx, hb, hml, hown, hg⟩ (c_H_hasWorksWithin l z D ac sa P q (aw q) (hv 0 q) (hv 1 q) (hv 2 q) (hv 3 q) (hv 4 q) (hv 6 q) (hv 7 q) (hv 8 q) (hv 9 q) (ct q)  (ov 0) (ov 1) (fw q) p2 p3 fovq fqq fqwq) (cx_gv gm_C_142 gi_H_hasWorksWithin gs_H_hasWorksWithin gn_H gc_H_hasWorksWithin) (by decide +kernel) ⟨by decide, by decide⟩ hK hw fqq rfl rfl hl.1 rfl (Nat.le_of_ble_eq_true rfl) dd_C_works_34 ⟨by decide, by decide⟩) hw (fun v9 P9 H locs hp hw => ?_)
          obtain ⟨rfl, e9⟩ := hp
          rw [e9] at hw
          clear e9 P9
          refine W.eq (g2 := F0 m 37 ls [.int (su_m3 (ov 0) (ov 1) p2 p3 (fw q))]) rfl ?_
          refine lv_if_eq (tgt := 50) hx hb dd_C_works_37 (by decide) (fun c6 => ?_) (fun c6 => ?_)
          · skip
            refine lv_aload hx hb dd_C_works_50 (lv_at hl 0 rfl) ?_
            refine lv_iload_n hx hb dd_C_works_52 rfl (lv_at hl 3 rfl) ?_
            refine lv_iload_n hx hb dd_C_works_53 rfl (lv_at hl 4 rfl) ?_
            refine cx_after (cx_rV (n := 2) (As := [.int p2, .int p3]) (rest := []) ⟨hx, hb, hml, hown, hg⟩ (c_H_addWorks l z D ac sa P q (aw q) (hv 0 q) (hv 1 q) (hv 2 q) (hv 3 q) (hv 4 q) (hv 6 q) (hv 7 q) (hv 8 q) (hv 9 q) (ct q)  (fw q) p2 p3 fqq fqwq) (cx_gv gm_C_148 gi_H_addWorks gs_H_addWorks gn_H gc_H_addWorks) (by decide +kernel) ⟨by decide, by decide⟩ hK hw fqq rfl rfl hl.1 rfl (Nat.le_of_ble_eq_true rfl) dd_C_works_54 ⟨by decide, by decide⟩) hw (fun v9 P9 H locs hp hw => ?_)
            by_cases k1 : hv 6 q < 0
            · rw [if_pos k1] at hp
              obtain ⟨rfl, e9⟩ := hp
              rw [e9] at hw
              refine W.eq (g2 := F0 m 57 ls [.int (0 : Int32)]) rfl ?_
              refine lv_if_ne (tgt := 70) hx hb dd_C_works_57 (by decide) (fun c7 => absurd (by decide) c7) (fun c7 => ?_)
              refine cx_thrS (E := xn_UOE) (text := "no room for more works") hx hb hT (by rw [hml]; exact hl.1.symm) hown hg hK hw (by decide +kernel) gk_C_65 gn_UnsupportedOperationException xg_UOE xb_UOE xo_UOE (by decide +kernel) dd_C_works_60 dd_C_works_63 dd_C_works_64 dd_C_works_66 dd_C_works_69 hout ⟨by decide, Nat.le_of_ble_eq_true rfl, by decide, by decide⟩ hlocks (by decide) (by decide) ?_
              exact ⟨rfl, Or.inr ⟨su_ne hkq, Or.inr ⟨n2, Or.inr ⟨n4, Or.inr ⟨c5, Or.inr ⟨(fun q8 h8 => by rw [hkq] at h8; cases h8; exact c6), Or.inl ⟨fun h8 => (h8 q hkq).1 k1, rfl⟩⟩⟩⟩⟩⟩⟩
            · rw [if_neg k1] at hp
              by_cases k2 : hv 6 q < 3
              · rw [if_pos k2] at hp
                obtain ⟨rfl, o, hno, e9⟩ := hp
                refine W.eq (g2 := F0 m 57 ls [.int (1 : Int32)]) rfl ?_
                refine lv_if_ne (tgt := 70) hx hb dd_C_works_57 (by decide) (fun c8 => ?_) (fun c8 => absurd c8 (by decide))
                refine vx_ret (cx_vret hx hb hr hlocks hw dd_C_works_70 (by decide) (by decide) ?_)
                exact ⟨⟨su_ne hkq, n2, n4, c5, (fun q8 h8 => by rw [hkq] at h8; cases h8; exact c6), (fun q8 h8 => by rw [hkq] at h8; cases h8; exact ⟨k1, k2⟩), trivial⟩, rfl, q, o, hkq, hno, e9⟩
              · rw [if_neg k2] at hp
                obtain ⟨rfl, e9⟩ := hp
                rw [e9] at hw
                refine W.eq (g2 := F0 m 57 ls [.int (0 : Int32)]) rfl ?_
                refine lv_if_ne (tgt := 70) hx hb dd_C_works_57 (by decide) (fun c9 => absurd (by decide) c9) (fun c9 => ?_)
                refine cx_thrS (E := xn_UOE) (text := "no room for more works") hx hb hT (by rw [hml]; exact hl.1.symm) hown hg hK hw (by decide +kernel) gk_C_65 gn_UnsupportedOperationException xg_UOE xb_UOE xo_UOE (by decide +kernel) dd_C_works_60 dd_C_works_63 dd_C_works_64 dd_C_works_66 dd_C_works_69 hout ⟨by decide, Nat.le_of_ble_eq_true rfl, by decide, by decide⟩ hlocks (by decide) (by decide) ?_
                exact ⟨rfl, Or.inr ⟨su_ne hkq, Or.inr ⟨n2, Or.inr ⟨n4, Or.inr ⟨c5, Or.inr ⟨(fun q8 h8 => by rw [hkq] at h8; cases h8; exact c6), Or.inl ⟨fun h8 => k2 (h8 q hkq).2, rfl⟩⟩⟩⟩⟩⟩⟩
          · skip
            refine cx_thrS (E := xn_ISE) (text := "a day of these works is one of others") hx hb hT (by rw [hml]; exact hl.1.symm) hown hg hK hw (by decide +kernel) gk_C_86 gn_IllegalStateException xg_ISE xb_ISE xo_ISE (by decide +kernel) dd_C_works_40 dd_C_works_43 dd_C_works_44 dd_C_works_46 dd_C_works_49 hout ⟨by decide, Nat.le_of_ble_eq_true rfl, by decide, by decide⟩ hlocks (by decide) (by decide) ?_
            exact ⟨rfl, Or.inr ⟨su_ne hkq, Or.inr ⟨n2, Or.inr ⟨n4, Or.inr ⟨c5, Or.inl ⟨fun h8 => c6 (h8 q hkq), rfl⟩⟩⟩⟩⟩⟩
        · skip
          refine cx_thrS (E := xn_IOB) (text := "the second day is below the first") hx hb hT (by rw [hml]; exact hl.1.symm) hown hg hK hw (by decide +kernel) gk_C_132 gn_IndexOutOfBoundsException xg_IOB xb_IOB xo_IOB (by decide +kernel) dd_C_works_20 dd_C_works_23 dd_C_works_24 dd_C_works_26 dd_C_works_29 hout ⟨by decide, Nat.le_of_ble_eq_true rfl, by decide, by decide⟩ hlocks (by decide) (by decide) ?_
          exact ⟨rfl, Or.inr ⟨su_ne hkq, Or.inr ⟨n2, Or.inr ⟨n4, Or.inl ⟨c5, rfl⟩⟩⟩⟩⟩
