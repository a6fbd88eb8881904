set_option maxHeartbeats 4000000 in
set_option maxRecDepth 100000 in
theorem c_C_hydrantAt (l : Launch) (hT : l.stackTraces = false) (z : Nat) (D : va_G) (ac : Nat → ClassId) (sa : Nat → Nat) (P : pm_T) (h0 aH aT aL aK aW : Nat) (nh nt al : Int32) (fH : Nat → Option Nat) (hv tv ov : Nat → Nat → Int32) (aw : Nat → Nat) (ct : Nat → Option Nat) (fw : Nat → Nat → Option Nat) (p1 p2 : Int32) (fy : hy_W P ac fH hv tv ov aw ct fw) (f0 : P h0 = some (.inr (0, [.ref aH, .ref aT, .ref aL, .ref aK, .ref aW, .int nh, .int nt, .int al]))) (f1 : P aH = some (.inl (ac 3, 40, .inr (.inr (.inr (.inr fH)))))) : cx_V l yy_C_hydrantAt bb_C_hydrantAt 4 (some .int) ({ frames := 7, cells := 2, slots := 12, locals := 138 } : Room) z D ac sa P [.ref h0, .int p1, .int p2] (fun v P' => su_al [(¬ su_kn p1 fH = none, xn_IAE), (¬ (p2.toInt < 0 ∨ 5 < p2.toInt), xn_IAE)] ∧ P' = P ∧ ∃ q, su_kn p1 fH = some q ∧ v = some (.int (su_ha hv (tv 0) (ct q) q p2))) (fun E P' => P' = P ∧ su_xs [(¬ su_kn p1 fH = none, xn_IAE), (¬ (p2.toInt < 0 ∨ 5 < p2.toInt), xn_IAE)] E) := by
  refine cx_ofV (by decide) (Nat.le_of_ble_eq_true rfl) (fun p e s m below meth c ls hx hb hr hml hg hown hlocks hout hK hw hl => ?_)
  have hl : lv_has ls 4 [(0, .ref h0), (1, .int p1), (2, .int p2)] := hl
  have hown : s.vm.findClass cn_C = some m.cls := hown
  refine lv_aload_n hx hb dd_C_hydrantAt_0 rfl (lv_at hl 0 rfl) ?_
  refine lv_iload_n hx hb dd_C_hydrantAt_1 rfl (lv_at hl 1 rfl) ?_
  refine cx_afterX (cx_rVX (n := 1) (As := [.int p1]) (rest := []) ⟨hx, hb, hml, hown, hg⟩ (c_C_known l hT z D ac sa P h0 aH aT aL aK aW nh nt al fH p1 f0 f1) (cx_gv gm_C_76 gi_C_known gs_C_known gn_C gc_C_known) (by decide +kernel) ⟨by decide, by decide⟩ hK hw f0 rfl rfl hl.1 rfl (Nat.le_of_ble_eq_true rfl) dd_C_hydrantAt_2 ⟨by decide, by decide⟩) hw (fun E9 ce9 q9 P9 H locs hp hw hce hcv hcl => ?_) (fun v9 P9 H locs hp hw => ?_)
  · skip
    obtain ⟨rfl, e9, hn9⟩ := hp
    rw [e9] at hw
    clear e9 P9
    refine cx_pass hout hlocks hce hcv hcl hw ?_ (by decide) (by decide)
    exact ⟨rfl, Or.inl ⟨fun h8 => h8 hn9, rfl⟩⟩
  · skip
    obtain ⟨q, rfl, e9, hkq⟩ := hp
    rw [e9] at hw
    clear e9 P9
    obtain ⟨fqq, fqwq, fovq, ftq⟩ := fy _ q (su_kn_at hkq)
    refine W.eq (g2 := F0 m 5 ls [.ref q]) rfl ?_
    refine lv_astore_n (lv' := [(3, .ref q), (0, .ref h0), (1, .int p1), (2, .int p2)]) hx hb dd_C_hydrantAt_5 rfl hl (by decide) rfl (fun ls hl => ?_)
    refine lv_iload_n hx hb dd_C_hydrantAt_6 rfl (lv_at hl 3 rfl) ?_
    rcases su_sw6 p2 with h1 | h1 | h1 | h1 | h1 | h1 | h1
    · refine lv_tableIn (tgt := 44) hx hb dd_C_hydrantAt_7 (by rw [h1]; decide) (by rw [h1]; decide) (by rw [h1]; rfl) (by decide) ?_
      refine lv_aload_n hx hb dd_C_hydrantAt_44 rfl (lv_at hl 0 rfl) ?_
      refine pm_get (ci := 1) (C := cn_H) (T := cf_H) (N := 11) (v := .int (hv 3 q)) hx hb hg gu_H hown hK.2.1 hw fqq rfl 3 (by decide) (hg _ gf_C_188) (fun _ h9 => h9) rfl dd_C_hydrantAt_45 ?_
      refine vx_ret (cx_iret (v := (hv 3 q)) hx hb hr rfl hlocks hw dd_C_hydrantAt_48 (by decide) (by decide) ?_)
      exact ⟨⟨su_ne hkq, (by rw [h1]; decide), trivial⟩, rfl, q, hkq, by simp only [su_ha, h1]; rfl⟩
    · refine lv_tableIn (tgt := 49) hx hb dd_C_hydrantAt_7 (by rw [h1]; decide) (by rw [h1]; decide) (by rw [h1]; rfl) (by decide) ?_
      refine lv_aload_n hx hb dd_C_hydrantAt_49 rfl (lv_at hl 0 rfl) ?_
      refine pm_get (ci := 1) (C := cn_H) (T := cf_H) (N := 11) (v := .int (hv 4 q)) hx hb hg gu_H hown hK.2.1 hw fqq rfl 4 (by decide) (hg _ gf_C_155) (fun _ h9 => h9) rfl dd_C_hydrantAt_50 ?_
      refine vx_ret (cx_iret (v := (hv 4 q)) hx hb hr rfl hlocks hw dd_C_hydrantAt_53 (by decide) (by decide) ?_)
      exact ⟨⟨su_ne hkq, (by rw [h1]; decide), trivial⟩, rfl, q, hkq, by simp only [su_ha, h1]; rfl⟩
    · refine lv_tableIn (tgt := 54) hx hb dd_C_hydrantAt_7 (by rw [h1]; decide) (by rw [h1]; decide) (by rw [h1]; rfl) (by decide) ?_
      refine lv_aload_n hx hb dd_C_hydrantAt_54 rfl (lv_at hl 0 rfl) ?_
      refine pm_get (ci := 1) (C := cn_H) (T := cf_H) (N := 11) (v := .int (hv 7 q)) hx hb hg gu_H hown hK.2.1 hw fqq rfl 7 (by decide) (hg _ gf_C_137) (fun _ h9 => h9) rfl dd_C_hydrantAt_55 ?_
      refine vx_ret (cx_iret (v := (hv 7 q)) hx hb hr rfl hlocks hw dd_C_hydrantAt_58 (by decide) (by decide) ?_)
      exact ⟨⟨su_ne hkq, (by rw [h1]; decide), trivial⟩, rfl, q, hkq, by simp only [su_ha, h1]; rfl⟩
    · refine lv_tableIn (tgt := 59) hx hb dd_C_hydrantAt_7 (by rw [h1]; decide) (by rw [h1]; decide) (by rw [h1]; rfl) (by decide) ?_
      refine lv_aload_n hx hb dd_C_hydrantAt_59 rfl (lv_at hl 0 rfl) ?_
      refine cx_after (cx_rV (n := 0) (As := []) (rest := []) ⟨hx, hb, hml, hown, hg⟩ (c_H_countingNumber l z D ac sa P q (aw q) (hv 0 q) (hv 1 q) (hv 2 q) (hv 3 q) (hv 4 q) (hv 6 q) (hv 7 q) (hv 8 q) (hv 9 q) (ct q) (tv 0) (tv 1) (tv 2) (tv 3) (tv 4) (tv 5)  ftq fqq) (cx_gv gm_C_248 gi_H_countingNumber gs_H_countingNumber gn_H gc_H_countingNumber) (by decide +kernel) ⟨by decide, by decide⟩ hK hw fqq rfl rfl hl.1 rfl (Nat.le_of_ble_eq_true rfl) dd_C_hydrantAt_60 ⟨by decide, by decide⟩) hw (fun v9 P9 H locs hp hw => ?_)
      obtain ⟨rfl, e9⟩ := hp
      rw [e9] at hw
      clear e9 P9
      refine W.eq (g2 := F0 m 63 ls [.int (su_cn (tv 0) (ct q))]) rfl ?_
      refine vx_ret (cx_iret (v := (su_cn (tv 0) (ct q))) hx hb hr rfl hlocks hw dd_C_hydrantAt_63 (by decide) (by decide) ?_)
      exact ⟨⟨su_ne hkq, (by rw [h1]; decide), trivial⟩, rfl, q, hkq, by simp only [su_ha, h1]; rfl⟩
    · refine lv_tableIn (tgt := 64) hx hb dd_C_hydrantAt_7 (by rw [h1]; decide) (by rw [h1]; decide) (by rw [h1]; rfl) (by decide) ?_
      refine lv_aload_n hx hb dd_C_hydrantAt_64 rfl (lv_at hl 0 rfl) ?_
      refine pm_get (ci := 1) (C := cn_H) (T := cf_H) (N := 11) (v := .int (hv 9 q)) hx hb hg gu_H hown hK.2.1 hw fqq rfl 9 (by decide) (hg _ gf_C_251) (fun _ h9 => h9) rfl dd_C_hydrantAt_65 ?_
      refine vx_ret (cx_iret (v := (hv 9 q)) hx hb hr rfl hlocks hw dd_C_hydrantAt_68 (by decide) (by decide) ?_)
      exact ⟨⟨su_ne hkq, (by rw [h1]; decide), trivial⟩, rfl, q, hkq, by simp only [su_ha, h1]; rfl⟩
    · refine lv_tableIn (tgt := 69) hx hb dd_C_hydrantAt_7 (by rw [h1]; decide) (by rw [h1]; decide) (by rw [h1]; rfl) (by decide) ?_
      refine lv_aload_n hx hb dd_C_hydrantAt_69 rfl (lv_at hl 0 rfl) ?_
      refine pm_get (ci := 1) (C := cn_H) (T := cf_H) (N := 11) (v := .int (hv 6 q)) hx hb hg gu_H hown hK.2.1 hw fqq rfl 6 (by decide) (hg _ gf_C_252) (fun _ h9 => h9) rfl dd_C_hydrantAt_70 ?_
      refine vx_ret (cx_iret (v := (hv 6 q)) hx hb hr rfl hlocks hw dd_C_hydrantAt_73 (by decide) (by decide) ?_)
      exact ⟨⟨su_ne hkq, (by rw [h1]; decide), trivial⟩, rfl, q, hkq, by simp only [su_ha, h1]; rfl⟩
    · refine lv_tableOut (tgt := 74) hx hb dd_C_hydrantAt_7 h1 (by decide) ?_
      refine cx_thrS (E := xn_IAE) (text := "no such what") hx hb hT (by rw [hml]; exact hl.1.symm) hown hg hK hw (by decide +kernel) gk_C_54 gn_IllegalArgumentException xg_IAE xb_IAE xo_IAE (by decide +kernel) dd_C_hydrantAt_74 dd_C_hydrantAt_77 dd_C_hydrantAt_78 dd_C_hydrantAt_80 dd_C_hydrantAt_83 hout ⟨by decide, Nat.le_of_ble_eq_true rfl, by decide, by decide⟩ hlocks (by decide) (by decide) ?_
      exact ⟨rfl, Or.inr ⟨su_ne hkq, Or.inl ⟨fun h8 => h8 h1, rfl⟩⟩⟩

set_option maxHeartbeats 4000000 in
set_option maxRecDepth 100000 in
theorem c_C_testAt (l : Launch) (hT : l.stackTraces = false) (z : Nat) (D : va_G) (ac : Nat → ClassId) (sa : Nat → Nat) (P : pm_T) (h0 aH aT aL aK aW : Nat) (nh nt al : Int32) (fT : Nat → Option Nat) (tv : Nat → Nat → Int32) (p1 p2 : Int32) (fz : ∀ k t, fT k = some t → P t = some (.inr (2, [.int (tv 0 t), .int (tv 1 t), .int (tv 2 t), .int (tv 3 t), .int (tv 4 t), .int (tv 5 t)]))) (f0 : P h0 = some (.inr (0, [.ref aH, .ref aT, .ref aL, .ref aK, .ref aW, .int nh, .int nt, .int al]))) (f1 : P aT = some (.inl (ac 4, 100, .inr (.inr (.inr (.inr fT)))))) : cx_V l yy_C_testAt bb_C_testAt 4 (some .int) ({ frames := 7, cells := 1, slots := 6, locals := 138 } : Room) z D ac sa P [.ref h0, .int p1, .int p2] (fun v P' => su_al [(¬ su_tk p1 fT = none, xn_IAE), (¬ (p2.toInt < 0 ∨ 4 < p2.toInt), xn_IAE)] ∧ P' = P ∧ ∃ t, su_tk p1 fT = some t ∧ v = some (.int (su_ta tv t p2))) (fun E P' => P' = P ∧ su_xs [(¬ su_tk p1 fT = none, xn_IAE), (¬ (p2.toInt < 0 ∨ 4 < p2.toInt), xn_IAE)] E) := by
  refine cx_ofV (by decide) (Nat.le_of_ble_eq_true rfl) (fun p e s m below meth c ls hx hb hr hml hg hown hlocks hout hK hw hl => ?_)
  have hl : lv_has ls 4 [(0, .ref h0), (1, .int p1), (2, .int p2)] := hl
  have hown : s.vm.findClass cn_C = some m.cls := hown
  refine lv_iload_n hx hb dd_C_testAt_0 rfl (lv_at hl 1 rfl) ?_
  refine lv_if_lt (tgt := 22) hx hb dd_C_testAt_1 (by decide) (fun c1 => ?_) (fun c1 => ?_)
  · skip
    refine lv_null hx hb dd_C_testAt_22 ?_
    refine lv_astore_nN (lv' := [(3, .null), (0, .ref h0), (1, .int p1), (2, .int p2)]) hx hb dd_C_testAt_23 rfl hl (by decide) rfl (fun ls hl => ?_)
    refine lv_aload_nN hx hb dd_C_testAt_24 rfl (lv_at hl 0 rfl) ?_
    refine lv_ifnonnullN hx hb dd_C_testAt_25 ?_
    refine cx_thrS (E := xn_IAE) (text := "no such test") hx hb hT (by rw [hml]; exact hl.1.symm) hown hg hK hw (by decide +kernel) gk_C_54 gn_IllegalArgumentException xg_IAE xb_IAE xo_IAE (by decide +kernel) dd_C_testAt_28 dd_C_testAt_31 dd_C_testAt_32 dd_C_testAt_34 dd_C_testAt_37 hout ⟨by decide, Nat.le_of_ble_eq_true rfl, by decide, by decide⟩ hlocks (by decide) (by decide) ?_
    exact ⟨rfl, Or.inl ⟨fun h8 => h8 (by rw [su_tk, if_pos c1]), rfl⟩⟩
  · skip
    refine lv_iload_n hx hb dd_C_testAt_4 rfl (lv_at hl 1 rfl) ?_
    refine lv_aload_n hx hb dd_C_testAt_5 rfl (lv_at hl 0 rfl) ?_
    refine pm_get (ci := 0) (C := cn_C) (T := cf_C) (N := 8) (v := .ref aT) hx hb hg gu_C hown hK.2.1 hw f0 rfl 1 (by decide) (hg _ gf_C_17) (fun _ h9 => h9) rfl dd_C_testAt_6 ?_
    refine pm_alen (v := 100) hx hb hK.2.1 hw 4 f1 rfl rfl dd_C_testAt_9 ?_
    refine lv_icmp_ge (tgt := 22) hx hb dd_C_testAt_10 (by decide) (fun c2 => ?_) (fun c2 => ?_)
    · skip
      refine lv_null hx hb dd_C_testAt_22 ?_
      refine lv_astore_nN (lv' := [(3, .null), (0, .ref h0), (1, .int p1), (2, .int p2)]) hx hb dd_C_testAt_23 rfl hl (by decide) rfl (fun ls hl => ?_)
      refine lv_aload_nN hx hb dd_C_testAt_24 rfl (lv_at hl 0 rfl) ?_
      refine lv_ifnonnullN hx hb dd_C_testAt_25 ?_
      refine cx_thrS (E := xn_IAE) (text := "no such test") hx hb hT (by rw [hml]; exact hl.1.symm) hown hg hK hw (by decide +kernel) gk_C_54 gn_IllegalArgumentException xg_IAE xb_IAE xo_IAE (by decide +kernel) dd_C_testAt_28 dd_C_testAt_31 dd_C_testAt_32 dd_C_testAt_34 dd_C_testAt_37 hout ⟨by decide, Nat.le_of_ble_eq_true rfl, by decide, by decide⟩ hlocks (by decide) (by decide) ?_
      exact ⟨rfl, Or.inl ⟨fun h8 => h8 (by rw [su_tk, if_neg c1, if_pos c2]), rfl⟩⟩
    · skip
      refine lv_aload_n hx hb dd_C_testAt_13 rfl (lv_at hl 0 rfl) ?_
      refine pm_get (ci := 0) (C := cn_C) (T := cf_C) (N := 8) (v := .ref aT) hx hb hg gu_C hown hK.2.1 hw f0 rfl 1 (by decide) (hg _ gf_C_17) (fun _ h9 => h9) rfl dd_C_testAt_14 ?_
      refine lv_iload_n hx hb dd_C_testAt_17 rfl (lv_at hl 1 rfl) ?_
      refine pm_aald hx hb hK.2.1 hw 4 f1 rfl (vp_in_ge (n := 100) (by decide) c1 c2) dd_C_testAt_18 ?_
      rcases hq : (fT p1.toNatClampNeg) with _ | t
      · skip
        refine W.eq (g2 := F0 m 19 ls [.null]) rfl ?_
        refine lv_goto (tgt := 23) hx hb dd_C_testAt_19 (by decide) ?_
        refine lv_astore_nN (lv' := [(3, .null), (0, .ref h0), (1, .int p1), (2, .int p2)]) hx hb dd_C_testAt_23 rfl hl (by decide) rfl (fun ls hl => ?_)
        refine lv_aload_nN hx hb dd_C_testAt_24 rfl (lv_at hl 0 rfl) ?_
        refine lv_ifnonnullN hx hb dd_C_testAt_25 ?_
        refine cx_thrS (E := xn_IAE) (text := "no such test") hx hb hT (by rw [hml]; exact hl.1.symm) hown hg hK hw (by decide +kernel) gk_C_54 gn_IllegalArgumentException xg_IAE xb_IAE xo_IAE (by decide +kernel) dd_C_testAt_28 dd_C_testAt_31 dd_C_testAt_32 dd_C_testAt_34 dd_C_testAt_37 hout ⟨by decide, Nat.le_of_ble_eq_true rfl, by decide, by decide⟩ hlocks (by decide) (by decide) ?_
        exact ⟨rfl, Or.inl ⟨fun h8 => h8 (by rw [su_tk, if_neg c1, if_neg c2, hq]), rfl⟩⟩
      · skip
        refine W.eq (g2 := F0 m 19 ls [.ref t]) rfl ?_
        have htk : su_tk p1 fT = some t := by rw [su_tk, if_neg c1, if_neg c2, hq]
        have fqt := fz _ t hq
        refine lv_goto (tgt := 23) hx hb dd_C_testAt_19 (by decide) ?_
        refine lv_astore_n (lv' := [(3, .ref t), (0, .ref h0), (1, .int p1), (2, .int p2)]) hx hb dd_C_testAt_23 rfl hl (by decide) rfl (fun ls hl => ?_)
        refine lv_aload_n hx hb dd_C_testAt_24 rfl (lv_at hl 0 rfl) ?_
        refine lv_ifnonnull (tgt := 38) hx hb dd_C_testAt_25 (by decide) ?_
        refine lv_iload_n hx hb dd_C_testAt_38 rfl (lv_at hl 3 rfl) ?_
        rcases su_sw5 p2 with h3 | h3 | h3 | h3 | h3 | h3
        · refine lv_tableIn (tgt := 72) hx hb dd_C_testAt_39 (by rw [h3]; decide) (by rw [h3]; decide) (by rw [h3]; rfl) (by decide) ?_
          refine lv_aload_n hx hb dd_C_testAt_72 rfl (lv_at hl 0 rfl) ?_
          refine pm_get (ci := 2) (C := cn_T) (T := cf_T) (N := 6) (v := .int (tv 1 t)) hx hb hg gu_T hown hK.2.1 hw fqt rfl 1 (by decide) (hg _ gf_C_233) (fun _ h9 => h9) rfl dd_C_testAt_73 ?_
          refine vx_ret (cx_iret (v := (tv 1 t)) hx hb hr rfl hlocks hw dd_C_testAt_76 (by decide) (by decide) ?_)
          exact ⟨⟨su_ne htk, (by rw [h3]; decide), trivial⟩, rfl, t, htk, by simp only [su_ta, h3]; rfl⟩
        · refine lv_tableIn (tgt := 77) hx hb dd_C_testAt_39 (by rw [h3]; decide) (by rw [h3]; decide) (by rw [h3]; rfl) (by decide) ?_
          refine lv_aload_n hx hb dd_C_testAt_77 rfl (lv_at hl 0 rfl) ?_
          refine pm_get (ci := 2) (C := cn_T) (T := cf_T) (N := 6) (v := .int (tv 2 t)) hx hb hg gu_T hown hK.2.1 hw fqt rfl 2 (by decide) (hg _ gf_C_236) (fun _ h9 => h9) rfl dd_C_testAt_78 ?_
          refine vx_ret (cx_iret (v := (tv 2 t)) hx hb hr rfl hlocks hw dd_C_testAt_81 (by decide) (by decide) ?_)
          exact ⟨⟨su_ne htk, (by rw [h3]; decide), trivial⟩, rfl, t, htk, by simp only [su_ta, h3]; rfl⟩
        · refine lv_tableIn (tgt := 82) hx hb dd_C_testAt_39 (by rw [h3]; decide) (by rw [h3]; decide) (by rw [h3]; rfl) (by decide) ?_
          refine lv_aload_n hx hb dd_C_testAt_82 rfl (lv_at hl 0 rfl) ?_
          refine pm_get (ci := 2) (C := cn_T) (T := cf_T) (N := 6) (v := .int (tv 3 t)) hx hb hg gu_T hown hK.2.1 hw fqt rfl 3 (by decide) (hg _ gf_C_239) (fun _ h9 => h9) rfl dd_C_testAt_83 ?_
          refine vx_ret (cx_iret (v := (tv 3 t)) hx hb hr rfl hlocks hw dd_C_testAt_86 (by decide) (by decide) ?_)
          exact ⟨⟨su_ne htk, (by rw [h3]; decide), trivial⟩, rfl, t, htk, by simp only [su_ta, h3]; rfl⟩
        · refine lv_tableIn (tgt := 87) hx hb dd_C_testAt_39 (by rw [h3]; decide) (by rw [h3]; decide) (by rw [h3]; rfl) (by decide) ?_
          refine lv_aload_n hx hb dd_C_testAt_87 rfl (lv_at hl 0 rfl) ?_
          refine pm_get (ci := 2) (C := cn_T) (T := cf_T) (N := 6) (v := .int (tv 4 t)) hx hb hg gu_T hown hK.2.1 hw fqt rfl 4 (by decide) (hg _ gf_C_242) (fun _ h9 => h9) rfl dd_C_testAt_88 ?_
          refine vx_ret (cx_iret (v := (tv 4 t)) hx hb hr rfl hlocks hw dd_C_testAt_91 (by decide) (by decide) ?_)
          exact ⟨⟨su_ne htk, (by rw [h3]; decide), trivial⟩, rfl, t, htk, by simp only [su_ta, h3]; rfl⟩
        · refine lv_tableIn (tgt := 92) hx hb dd_C_testAt_39 (by rw [h3]; decide) (by rw [h3]; decide) (by rw [h3]; rfl) (by decide) ?_
          refine lv_aload_n hx hb dd_C_testAt_92 rfl (lv_at hl 0 rfl) ?_
          refine pm_get (ci := 2) (C := cn_T) (T := cf_T) (N := 6) (v := .int (tv 5 t)) hx hb hg gu_T hown hK.2.1 hw fqt rfl 5 (by decide) (hg _ gf_C_245) (fun _ h9 => h9) rfl dd_C_testAt_93 ?_
          refine vx_ret (cx_iret (v := (tv 5 t)) hx hb hr rfl hlocks hw dd_C_testAt_96 (by decide) (by decide) ?_)
          exact ⟨⟨su_ne htk, (by rw [h3]; decide), trivial⟩, rfl, t, htk, by simp only [su_ta, h3]; rfl⟩
        · refine lv_tableOut (tgt := 97) hx hb dd_C_testAt_39 h3 (by decide) ?_
          refine cx_thrS (E := xn_IAE) (text := "no such what") hx hb hT (by rw [hml]; exact hl.1.symm) hown hg hK hw (by decide +kernel) gk_C_54 gn_IllegalArgumentException xg_IAE xb_IAE xo_IAE (by decide +kernel) dd_C_testAt_97 dd_C_testAt_100 dd_C_testAt_101 dd_C_testAt_103 dd_C_testAt_106 hout ⟨by decide, Nat.le_of_ble_eq_true rfl, by decide, by decide⟩ hlocks (by decide) (by decide) ?_
          exact ⟨rfl, Or.inr ⟨su_ne htk, Or.inl ⟨fun h8 => h8 h3, rfl⟩⟩⟩

def su_bo (s m n : Int32) (lm : Nat → Int32) : Int32 := if m = n then (if su_lim m lm < s * 3 / 4 then su_lim m lm else s * 3 / 4) else s

set_option maxHeartbeats 4000000 in
set_option maxRecDepth 100000 in
theorem c_C_both (l : Launch) (hT : l.stackTraces = false) (z : Nat) (D : va_G) (ac : Nat → ClassId) (sa : Nat → Nat) (P : pm_T) (h0 aH aT aL aK aW : Nat) (nh nt al : Int32) (fH : Nat → Option Nat) (hv tv ov : Nat → Nat → Int32) (aw : Nat → Nat) (ct : Nat → Option Nat) (fw : Nat → Nat → Option Nat) (lm : Nat → Int32) (p1 p2 p3 : Int32) (fy : hy_W P ac fH hv tv ov aw ct fw) (f0 : P h0 = some (.inr (0, [.ref aH, .ref aT, .ref aL, .ref aK, .ref aW, .int nh, .int nt, .int al]))) (f1 : P aH = some (.inl (ac 3, 40, .inr (.inr (.inr (.inr fH)))))) (f2 : P aL = some (.inl (ac 0, 20, .inl lm))) : cx_V l yy_C_both bb_C_both 9 (some .int) ({ frames := 7, cells := 8, slots := 48, locals := 138 } : Room) z D ac sa P [.ref h0, .int p1, .int p2, .int p3] (fun v P' => su_al [(¬ su_kn p1 fH = none, xn_IAE), (¬ su_kn p2 fH = none, xn_IAE), (¬ p1 = p2, xn_IAE), (su_pr p3, xn_IOB), (∀ q, su_kn p1 fH = some q → ¬ ct q = none, xn_ISE), (∀ q, su_kn p2 fH = some q → ¬ ct q = none, xn_ISE), (∀ q, su_kn p1 fH = some q → ∀ t, ct q = some t → ¬ su_lo (tv 3 t) (tv 5 t) p3 ≤ 0, xn_ARE), (∀ q, su_kn p2 fH = some q → ∀ t, ct q = some t → ¬ su_lo (tv 3 t) (tv 5 t) p3 ≤ 0, xn_ARE)] ∧ P' = P ∧ ∃ q r t u, su_kn p1 fH = some q ∧ su_kn p2 fH = some r ∧ ct q = some t ∧ ct r = some u ∧ v = some (.int (su_bo (su_wh (tv 3 t) (tv 4 t) (tv 5 t) p3 + su_wh (tv 3 u) (tv 4 u) (tv 5 u) p3) (hv 3 q) (hv 3 r) lm))) (fun E P' => P' = P ∧ su_xs [(¬ su_kn p1 fH = none, xn_IAE), (¬ su_kn p2 fH = none, xn_IAE), (¬ p1 = p2, xn_IAE), (su_pr p3, xn_IOB), (∀ q, su_kn p1 fH = some q → ¬ ct q = none, xn_ISE), (∀ q, su_kn p2 fH = some q → ¬ ct q = none, xn_ISE), (∀ q, su_kn p1 fH = some q → ∀ t, ct q = some t → ¬ su_lo (tv 3 t) (tv 5 t) p3 ≤ 0, xn_ARE), (∀ q, su_kn p2 fH = some q → ∀ t, ct q = some t → ¬ su_lo (tv 3 t) (tv 5 t) p3 ≤ 0, xn_ARE)] E) := by
  refine cx_ofV (by decide) (Nat.le_of_ble_eq_true rfl) (fun p e s m below meth c ls hx hb hr hml hg hown hlocks hout hK hw hl => ?_)
  have hl : lv_has ls 9 [(0, .ref h0), (1, .int p1), (2, .int p2), (3, .int p3)] := hl
  have hown : s.vm.findClass cn_C = some m.cls := hown
  refine lv_aload_n hx hb dd_C_both_0 rfl (lv_at hl 0 rfl) ?_
  refine lv_iload_n hx hb dd_C_both_1 rfl (lv_at hl 1 rfl) ?_
  refine cx_afterX (cx_rVX (n := 1) (As := [.int p1]) (rest := []) ⟨hx, hb, hml, hown, hg⟩ (c_C_known l hT z D ac sa P h0 aH aT aL aK aW nh nt al fH p1 f0 f1) (cx_gv gm_C_76 gi_C_known gs_C_known gn_C gc_C_known) (by decide +kernel) ⟨by decide, by decide⟩ hK hw f0 rfl rfl hl.1 rfl (Nat.le_of_ble_eq_true rfl) dd_C_both_2 ⟨by decide, by decide⟩) hw (fun E9 ce9 q9 P9 H locs hp hw hce hcv hcl => ?_) (fun v9 P9 H locs hp hw => ?_)
  · skip
    obtain ⟨rfl, e9, hn9⟩ := hp
    rw [e9] at hw
    clear e9 P9
    refine cx_pass hout hlocks hce hcv hcl hw ?_ (by decide) (by decide)
    exact ⟨rfl, Or.inl ⟨fun h8 => h8 hn9, rfl⟩⟩
  · skip
    obtain ⟨q, rfl, e9, hkq⟩ := hp
    rw [e9] at hw
    clear e9 P9
    obtain ⟨fqq, fqwq, fovq, ftq⟩ := fy _ q (su_kn_at hkq)
    refine W.eq (g2 := F0 m 5 ls [.ref q]) rfl ?_
    refine lv_astore (lv' := [(4, .ref q), (0, .ref h0), (1, .int p1), (2, .int p2), (3, .int p3)]) hx hb dd_C_both_5 hl (by decide) rfl (fun ls hl => ?_)
    refine lv_aload_n hx hb dd_C_both_7 rfl (lv_at hl 1 rfl) ?_
    refine lv_iload_n hx hb dd_C_both_8 rfl (lv_at hl 3 rfl) ?_
    refine cx_afterX (cx_rVX (n := 1) (As := [.int p2]) (rest := []) ⟨hx, hb, hml, hown, hg⟩ (c_C_known l hT z D ac sa P h0 aH aT aL aK aW nh nt al fH p2 f0 f1) (cx_gv gm_C_76 gi_C_known gs_C_known gn_C gc_C_known) (by decide +kernel) ⟨by decide, by decide⟩ hK hw f0 rfl rfl hl.1 rfl (Nat.le_of_ble_eq_true rfl) dd_C_both_9 ⟨by decide, by decide⟩) hw (fun E9 ce9 q9 P9 H locs hp hw hce hcv hcl => ?_) (fun v9 P9 H locs hp hw => ?_)
    · skip
      obtain ⟨rfl, e9, hn9⟩ := hp
      rw [e9] at hw
      clear e9 P9
      refine cx_pass hout hlocks hce hcv hcl hw ?_ (by decide) (by decide)
      exact ⟨rfl, Or.inr ⟨su_ne hkq, Or.inl ⟨fun h8 => h8 hn9, rfl⟩⟩⟩
    · skip
      obtain ⟨r, rfl, e9, hkr⟩ := hp
      rw [e9] at hw
      clear e9 P9
      obtain ⟨fqr, fqwr, fovr, ftr⟩ := fy _ r (su_kn_at hkr)
      refine W.eq (g2 := F0 m 12 ls [.ref r]) rfl ?_
      refine lv_astore (lv' := [(5, .ref r), (4, .ref q), (0, .ref h0), (1, .int p1), (2, .int p2), (3, .int p3)]) hx hb dd_C_both_12 hl (by decide) rfl (fun ls hl => ?_)
      refine lv_iload_n hx hb dd_C_both_14 rfl (lv_at hl 3 rfl) ?_
      refine lv_iload_n hx hb dd_C_both_15 rfl (lv_at hl 4 rfl) ?_
      refine lv_icmp_ne (tgt := 29) hx hb dd_C_both_16 (by decide) (fun c1 => ?_) (fun c1 => ?_)
      · skip
        refine lv_iload_n hx hb dd_C_both_29 rfl (lv_at hl 5 rfl) ?_
        refine cx_afterX (cx_rSX (n := 1) (As := [.int p3]) (rest := []) ⟨hx, hb, hml, hown, hg⟩ (c_C_needPressure l hT z D ac sa P p3) (cx_gs gm_C_83 gt_C_needPressure gn_C gc_C_needPressure) (by decide +kernel) ⟨by decide, by decide⟩ hK hw rfl hl.1 rfl (Nat.le_of_ble_eq_true rfl) dd_C_both_30 ⟨by decide, by decide⟩) hw (fun E9 ce9 q9 P9 H locs hp hw hce hcv hcl => ?_) (fun v9 P9 H locs hp hw => ?_)
        · skip
          obtain ⟨rfl, e9, n2⟩ := hp
          rw [e9] at hw
          clear e9 P9
          refine cx_pass hout hlocks hce hcv hcl hw ?_ (by decide) (by decide)
          exact ⟨rfl, Or.inr ⟨su_ne hkq, Or.inr ⟨su_ne hkr, Or.inr ⟨c1, Or.inl ⟨n2, rfl⟩⟩⟩⟩⟩
        · skip
          obtain ⟨rfl, e9, n3⟩ := hp
          rw [e9] at hw
          clear e9 P9
          refine W.eq (g2 := F0 m 33 ls []) rfl ?_
          refine lv_aload hx hb dd_C_both_33 (lv_at hl 1 rfl) ?_
          refine cx_afterX (cx_rSX (n := 1) (As := [.ref q]) (rest := []) ⟨hx, hb, hml, hown, hg⟩ (c_C_countingTest l hT z D ac sa P q (aw q) (hv 0 q) (hv 1 q) (hv 2 q) (hv 3 q) (hv 4 q) (hv 6 q) (hv 7 q) (hv 8 q) (hv 9 q) (ct q) fqq) (cx_gs gm_C_102 gt_C_countingTest gn_C gc_C_countingTest) (by decide +kernel) ⟨by decide, by decide⟩ hK hw rfl hl.1 rfl (Nat.le_of_ble_eq_true rfl) dd_C_both_35 ⟨by decide, by decide⟩) hw (fun E9 ce9 q9 P9 H locs hp hw hce hcv hcl => ?_) (fun v9 P9 H locs hp hw => ?_)
          · skip
            obtain ⟨rfl, e9, hn9⟩ := hp
            rw [e9] at hw
            clear e9 P9
            refine cx_pass hout hlocks hce hcv hcl hw ?_ (by decide) (by decide)
            exact ⟨rfl, Or.inr ⟨su_ne hkq, Or.inr ⟨su_ne hkr, Or.inr ⟨c1, Or.inr ⟨n3, Or.inl ⟨fun h8 => h8 q hkq hn9, rfl⟩⟩⟩⟩⟩⟩
          · skip
            obtain ⟨t, rfl, e9, hct⟩ := hp
            rw [e9] at hw
            clear e9 P9
            have fqt := ftq t hct
            refine W.eq (g2 := F0 m 38 ls [.ref t]) rfl ?_
            refine lv_astore (lv' := [(6, .ref t), (5, .ref r), (4, .ref q), (0, .ref h0), (1, .int p1), (2, .int p2), (3, .int p3)]) hx hb dd_C_both_38 hl (by decide) rfl (fun ls hl => ?_)
            refine lv_aload hx hb dd_C_both_40 (lv_at hl 1 rfl) ?_
            refine cx_afterX (cx_rSX (n := 1) (As := [.ref r]) (rest := []) ⟨hx, hb, hml, hown, hg⟩ (c_C_countingTest l hT z D ac sa P r (aw r) (hv 0 r) (hv 1 r) (hv 2 r) (hv 3 r) (hv 4 r) (hv 6 r) (hv 7 r) (hv 8 r) (hv 9 r) (ct r) fqr) (cx_gs gm_C_102 gt_C_countingTest gn_C gc_C_countingTest) (by decide +kernel) ⟨by decide, by decide⟩ hK hw rfl hl.1 rfl (Nat.le_of_ble_eq_true rfl) dd_C_both_42 ⟨by decide, by decide⟩) hw (fun E9 ce9 q9 P9 H locs hp hw hce hcv hcl => ?_) (fun v9 P9 H locs hp hw => ?_)
            · skip
              obtain ⟨rfl, e9, hn9⟩ := hp
              rw [e9] at hw
              clear e9 P9
              refine cx_pass hout hlocks hce hcv hcl hw ?_ (by decide) (by decide)
              exact ⟨rfl, Or.inr ⟨su_ne hkq, Or.inr ⟨su_ne hkr, Or.inr ⟨c1, Or.inr ⟨n3, Or.inr ⟨(fun q8 h8 => by rw [hkq] at h8; cases h8; exact su_ne hct), Or.inl ⟨fun h8 => h8 r hkr hn9, rfl⟩⟩⟩⟩⟩⟩⟩
            · skip
              obtain ⟨u, rfl, e9, hcu⟩ := hp
              rw [e9] at hw
              clear e9 P9
              have fqu := ftr u hcu
              refine W.eq (g2 := F0 m 45 ls [.ref u]) rfl ?_
              refine lv_astore (lv' := [(7, .ref u), (6, .ref t), (5, .ref r), (4, .ref q), (0, .ref h0), (1, .int p1), (2, .int p2), (3, .int p3)]) hx hb dd_C_both_45 hl (by decide) rfl (fun ls hl => ?_)
              refine lv_aload hx hb dd_C_both_47 (lv_at hl 1 rfl) ?_
              refine lv_iload_n hx hb dd_C_both_49 rfl (lv_at hl 7 rfl) ?_
              refine cx_afterX (cx_rSX (n := 2) (As := [.ref t, .int p3]) (rest := []) ⟨hx, hb, hml, hown, hg⟩ (c_C_needTold l hT z D ac sa P t (tv 0 t) (tv 1 t) (tv 2 t) (tv 3 t) (tv 4 t) (tv 5 t) p3 fqt) (cx_gs gm_C_106 gt_C_needTold gn_C gc_C_needTold) (by decide +kernel) ⟨by decide, by decide⟩ hK hw rfl hl.1 rfl (Nat.le_of_ble_eq_true rfl) dd_C_both_50 ⟨by decide, by decide⟩) hw (fun E9 ce9 q9 P9 H locs hp hw hce hcv hcl => ?_) (fun v9 P9 H locs hp hw => ?_)
              · skip
                obtain ⟨rfl, e9, hn9⟩ := hp
                rw [e9] at hw
                clear e9 P9
                refine cx_pass hout hlocks hce hcv hcl hw ?_ (by decide) (by decide)
                exact ⟨rfl, Or.inr ⟨su_ne hkq, Or.inr ⟨su_ne hkr, Or.inr ⟨c1, Or.inr ⟨n3, Or.inr ⟨(fun q8 h8 => by rw [hkq] at h8; cases h8; exact su_ne hct), Or.inr ⟨(fun q8 h8 => by rw [hkr] at h8; cases h8; exact su_ne hcu), Or.inl ⟨fun h8 => h8 q hkq t hct hn9, rfl⟩⟩⟩⟩⟩⟩⟩⟩
              · skip
                obtain ⟨rfl, e9, n4⟩ := hp
                rw [e9] at hw
                clear e9 P9
                refine W.eq (g2 := F0 m 53 ls []) rfl ?_
                refine lv_aload hx hb dd_C_both_53 (lv_at hl 0 rfl) ?_
                refine lv_iload_n hx hb dd_C_both_55 rfl (lv_at hl 7 rfl) ?_
                refine cx_afterX (cx_rSX (n := 2) (As := [.ref u, .int p3]) (rest := []) ⟨hx, hb, hml, hown, hg⟩ (c_C_needTold l hT z D ac sa P u (tv 0 u) (tv 1 u) (tv 2 u) (tv 3 u) (tv 4 u) (tv 5 u) p3 fqu) (cx_gs gm_C_106 gt_C_needTold gn_C gc_C_needTold) (by decide +kernel) ⟨by decide, by decide⟩ hK hw rfl hl.1 rfl (Nat.le_of_ble_eq_true rfl) dd_C_both_56 ⟨by decide, by decide⟩) hw (fun E9 ce9 q9 P9 H locs hp hw hce hcv hcl => ?_) (fun v9 P9 H locs hp hw => ?_)
                · skip
                  obtain ⟨rfl, e9, hn9⟩ := hp
                  rw [e9] at hw
                  clear e9 P9
                  refine cx_pass hout hlocks hce hcv hcl hw ?_ (by decide) (by decide)
                  exact ⟨rfl, Or.inr ⟨su_ne hkq, Or.inr ⟨su_ne hkr, Or.inr ⟨c1, Or.inr ⟨n3, Or.inr ⟨(fun q8 h8 => by rw [hkq] at h8; cases h8; exact su_ne hct), Or.inr ⟨(fun q8 h8 => by rw [hkr] at h8; cases h8; exact su_ne hcu), Or.inr ⟨(fun q8 h8 => by rw [hkq] at h8; cases h8; exact (fun t8 h8 => by rw [hct] at h8; cases h8; exact n4)), Or.inl ⟨fun h8 => h8 r hkr u hcu hn9, rfl⟩⟩⟩⟩⟩⟩⟩⟩⟩
                · skip
                  obtain ⟨rfl, e9, n5⟩ := hp
                  rw [e9] at hw
                  clear e9 P9
                  refine W.eq (g2 := F0 m 59 ls []) rfl ?_
                  refine lv_aload hx hb dd_C_both_59 (lv_at hl 1 rfl) ?_
                  refine lv_iload_n hx hb dd_C_both_61 rfl (lv_at hl 7 rfl) ?_
                  refine cx_after (cx_rV (n := 1) (As := [.int p3]) (rest := []) ⟨hx, hb, hml, hown, hg⟩ (c_T_wholeAt l z D ac sa P t (tv 0 t) (tv 1 t) (tv 2 t) (tv 3 t) (tv 4 t) (tv 5 t) p3 fqt) (cx_gv gm_C_126 gi_T_wholeAt gs_T_wholeAt gn_T gc_T_wholeAt) (by decide +kernel) ⟨by decide, by decide⟩ hK hw fqt rfl rfl hl.1 rfl (Nat.le_of_ble_eq_true rfl) dd_C_both_62 ⟨by decide, by decide⟩) hw (fun v9 P9 H locs hp hw => ?_)
                  obtain ⟨rfl, e9⟩ := hp
                  rw [e9] at hw
                  clear e9 P9
                  refine W.eq (g2 := F0 m 65 ls [.int (su_wh (tv 3 t) (tv 4 t) (tv 5 t) p3)]) rfl ?_
                  refine lv_aload hx hb dd_C_both_65 (lv_at hl 0 rfl) ?_
                  refine lv_iload_n hx hb dd_C_both_67 rfl (lv_at hl 7 rfl) ?_
                  refine cx_after (cx_rV (n := 1) (As := [.int p3]) (rest := [.int (su_wh (tv 3 t) (tv 4 t) (tv 5 t) p3)]) ⟨hx, hb, hml, hown, hg⟩ (c_T_wholeAt l z D ac sa P u (tv 0 u) (tv 1 u) (tv 2 u) (tv 3 u) (tv 4 u) (tv 5 u) p3 fqu) (cx_gv gm_C_126 gi_T_wholeAt gs_T_wholeAt gn_T gc_T_wholeAt) (by decide +kernel) ⟨by decide, by decide⟩ hK hw fqu rfl rfl hl.1 rfl (Nat.le_of_ble_eq_true rfl) dd_C_both_68 ⟨by decide, by decide⟩) hw (fun v9 P9 H locs hp hw => ?_)
                  obtain ⟨rfl, e9⟩ := hp
                  rw [e9] at hw
                  clear e9 P9
                  refine W.eq (g2 := F0 m 71 ls [.int (su_wh (tv 3 u) (tv 4 u) (tv 5 u) p3), .int (su_wh (tv 3 t) (tv 4 t) (tv 5 t) p3)]) rfl ?_
                  refine lv_iadd hx hb dd_C_both_71 ?_
                  refine lv_topi (fun x6 ex6 => ?_)
                  refine lv_istore (lv' := [(8, .int x6), (7, .ref u), (6, .ref t), (5, .ref r), (4, .ref q), (0, .ref h0), (1, .int p1), (2, .int p2), (3, .int p3)]) hx hb dd_C_both_72 hl (by decide) rfl (fun ls hl => ?_)
                  refine lv_aload hx hb dd_C_both_74 (lv_at hl 4 rfl) ?_
                  refine pm_get (ci := 1) (C := cn_H) (T := cf_H) (N := 11) (v := .int (hv 3 q)) hx hb hg gu_H hown hK.2.1 hw fqq rfl 3 (by decide) (hg _ gf_C_188) (fun _ h9 => h9) rfl dd_C_both_76 ?_
                  refine lv_aload hx hb dd_C_both_79 (lv_at hl 3 rfl) ?_
                  refine pm_get (ci := 1) (C := cn_H) (T := cf_H) (N := 11) (v := .int (hv 3 r)) hx hb hg gu_H hown hK.2.1 hw fqr rfl 3 (by decide) (hg _ gf_C_188) (fun _ h9 => h9) rfl dd_C_both_81 ?_
                  refine lv_icmp_ne (tgt := 108) hx hb dd_C_both_84 (by decide) (fun c7 => ?_) (fun c7 => ?_)
                  · skip
                    refine lv_iload hx hb dd_C_both_108 (lv_at hl 0 rfl) ?_
                    refine vx_ret (cx_iret (v := x6) hx hb hr rfl hlocks hw dd_C_both_110 (by decide) (by decide) ?_)
                    exact ⟨⟨su_ne hkq, su_ne hkr, c1, n3, (fun q8 h8 => by rw [hkq] at h8; cases h8; exact su_ne hct), (fun q8 h8 => by rw [hkr] at h8; cases h8; exact su_ne hcu), (fun q8 h8 => by rw [hkq] at h8; cases h8; exact (fun t8 h8 => by rw [hct] at h8; cases h8; exact n4)), (fun q8 h8 => by rw [hkr] at h8; cases h8; exact (fun t8 h8 => by rw [hcu] at h8; cases h8; exact n5)), trivial⟩, rfl, q, r, t, u, hkq, hkr, hct, hcu, by rw [ex6, su_bo, if_neg c7]⟩
                  · skip
                    refine lv_iload hx hb dd_C_both_87 (lv_at hl 0 rfl) ?_
                    refine lv_iconst (v := 3) hx hb dd_C_both_89 (by decide) ?_
                    refine lv_imul hx hb dd_C_both_90 ?_
                    refine lv_iconst (v := 4) hx hb dd_C_both_91 (by decide) ?_
                    refine lv_idiv hx hb dd_C_both_92 (by decide) ?_
                    refine lv_aload_n hx hb dd_C_both_93 rfl (lv_at hl 5 rfl) ?_
                    refine lv_aload hx hb dd_C_both_94 (lv_at hl 4 rfl) ?_
                    refine pm_get (ci := 1) (C := cn_H) (T := cf_H) (N := 11) (v := .int (hv 3 q)) hx hb hg gu_H hown hK.2.1 hw fqq rfl 3 (by decide) (hg _ gf_C_188) (fun _ h9 => h9) rfl dd_C_both_96 ?_
                    refine cx_after (cx_rV (n := 1) (As := [.int (hv 3 q)]) (rest := [.int ((x6 * (3 : Int32)) / (4 : Int32))]) ⟨hx, hb, hml, hown, hg⟩ (c_C_limitOf l z D ac sa P h0 aH aT aL aK aW nh nt al lm (hv 3 q) f0 f2) (cx_gv gm_C_191 gi_C_limitOf gs_C_limitOf gn_C gc_C_limitOf) (by decide +kernel) ⟨by decide, by decide⟩ hK hw f0 rfl rfl hl.1 rfl (Nat.le_of_ble_eq_true rfl) dd_C_both_99 ⟨by decide, by decide⟩) hw (fun v9 P9 H locs hp hw => ?_)
                    obtain ⟨rfl, e9⟩ := hp
                    rw [e9] at hw
                    clear e9 P9
                    refine W.eq (g2 := F0 m 102 ls [.int (su_lim (hv 3 q) lm), .int ((x6 * (3 : Int32)) / (4 : Int32))]) rfl ?_
                    refine va_mmin hx hb (by rw [hml]; exact hl.1.symm) hown (hg _ gm_C_129) (hg _ gt_N_min) (hg _ gn_Math) (hg _ gc_N_min) (Nat.le_of_ble_eq_true rfl) (Nat.le_of_ble_eq_true rfl) (Nat.le_of_ble_eq_true rfl) (Nat.le_of_ble_eq_true rfl) dd_C_both_102 ?_
                    refine lv_goto (tgt := 110) hx hb dd_C_both_105 (by decide) ?_
                    refine vx_ret (cx_iret (v := (if (su_lim (hv 3 q) lm) < ((x6 * (3 : Int32)) / (4 : Int32)) then (su_lim (hv 3 q) lm) else ((x6 * (3 : Int32)) / (4 : Int32)))) hx hb hr rfl hlocks hw dd_C_both_110 (by decide) (by decide) ?_)
                    exact ⟨⟨su_ne hkq, su_ne hkr, c1, n3, (fun q8 h8 => by rw [hkq] at h8; cases h8; exact su_ne hct), (fun q8 h8 => by rw [hkr] at h8; cases h8; exact su_ne hcu), (fun q8 h8 => by rw [hkq] at h8; cases h8; exact (fun t8 h8 => by rw [hct] at h8; cases h8; exact n4)), (fun q8 h8 => by rw [hkr] at h8; cases h8; exact (fun t8 h8 => by rw [hcu] at h8; cases h8; exact n5)), trivial⟩, rfl, q, r, t, u, hkq, hkr, hct, hcu, by rw [ex6, su_bo, if_pos c7]⟩
      · skip
        refine cx_thrS (E := xn_IAE) (text := "the two hydrants are one") hx hb hT (by rw [hml]; exact hl.1.symm) hown hg hK hw (by decide +kernel) gk_C_54 gn_IllegalArgumentException xg_IAE xb_IAE xo_IAE (by decide +kernel) dd_C_both_19 dd_C_both_22 dd_C_both_23 dd_C_both_25 dd_C_both_28 hout ⟨by decide, Nat.le_of_ble_eq_true rfl, by decide, by decide⟩ hlocks (by decide) (by decide) ?_
        exact ⟨rfl, Or.inr ⟨su_ne hkq, Or.inr ⟨su_ne hkr, Or.inl ⟨fun h8 => h8 c1, rfl⟩⟩⟩⟩

set_option maxHeartbeats 4000000 in
set_option maxRecDepth 100000 in
theorem c_A_stopAt (l : Launch) (z : Nat) (D : va_G) (ac : Nat → ClassId) (sa : Nat → Nat) (P : pm_T) (h0 : Nat) (aC aY aB : Nat) (cn ls0 : Int32) (fC : Nat → Option Nat) (fY fB : Nat → Int32) (p1 : Int32) (f0 : P h0 = some (.inr (5, [.ref aC, .ref aY, .ref aB, .int cn, .int ls0]))) (f1 : P aB = some (.inl (ac 0, 6, .inl fB))) : cx_M l yy_A_stopAt bb_A_stopAt 2 (some .int) ({ frames := 0, cells := 0, slots := 0, locals := 0 } : Room) z D ac sa P [.ref h0, .int p1] (fun v P' => v = some (.int (if p1 < 0 then -1 else if cn ≤ p1 then -1 else if (6 : Int32) ≤ p1 then -1 else fB p1.toNatClampNeg)) ∧ P' = P) := by
  refine cx_ofM (by decide) (Nat.le_of_ble_eq_true rfl) (fun p e s m below meth c ls hx hb hr hml hg hown hlocks hin hK hw hl => ?_)
  have hl : lv_has ls 2 [(0, .ref h0), (1, .int p1)] := hl
  have hown : s.vm.findClass cn_A = some m.cls := hown
  refine lv_iload_n hx hb dd_A_stopAt_0 rfl (lv_at hl 1 rfl) ?_
  refine lv_if_lt (tgt := 30) hx hb dd_A_stopAt_1 (by decide) (fun c1 => ?_) (fun c1 => ?_)
  · skip
    refine lv_iconst (v := (-1)) hx hb dd_A_stopAt_30 (by decide) ?_
    refine cx_iret (v := (-1 : Int32)) hx hb hr rfl hlocks hw dd_A_stopAt_31 (by decide) (by decide) ?_
    exact ⟨by simp only [if_pos c1], rfl⟩
  · skip
    refine lv_iload_n hx hb dd_A_stopAt_4 rfl (lv_at hl 1 rfl) ?_
    refine lv_aload_n hx hb dd_A_stopAt_5 rfl (lv_at hl 0 rfl) ?_
    refine pm_get (ci := 5) (C := cn_A) (T := cf_A) (N := 5) (v := .int cn) hx hb hg gu_A hown hK.2.1 hw f0 rfl 3 (by decide) (hg _ gf_A_24) (fun _ h9 => h9) rfl dd_A_stopAt_6 ?_
    refine lv_icmp_ge (tgt := 30) hx hb dd_A_stopAt_9 (by decide) (fun c2 => ?_) (fun c2 => ?_)
    · skip
      refine lv_iconst (v := (-1)) hx hb dd_A_stopAt_30 (by decide) ?_
      refine cx_iret (v := (-1 : Int32)) hx hb hr rfl hlocks hw dd_A_stopAt_31 (by decide) (by decide) ?_
      exact ⟨by simp only [if_neg c1, if_pos c2], rfl⟩
    · skip
      refine lv_iload_n hx hb dd_A_stopAt_12 rfl (lv_at hl 1 rfl) ?_
      refine lv_aload_n hx hb dd_A_stopAt_13 rfl (lv_at hl 0 rfl) ?_
      refine pm_get (ci := 5) (C := cn_A) (T := cf_A) (N := 5) (v := .ref aB) hx hb hg gu_A hown hK.2.1 hw f0 rfl 2 (by decide) (hg _ gf_A_21) (fun _ h9 => h9) rfl dd_A_stopAt_14 ?_
      refine pm_alen (v := 6) hx hb hK.2.1 hw 0 f1 rfl rfl dd_A_stopAt_17 ?_
      refine lv_icmp_ge (tgt := 30) hx hb dd_A_stopAt_18 (by decide) (fun c3 => ?_) (fun c3 => ?_)
      · skip
        refine lv_iconst (v := (-1)) hx hb dd_A_stopAt_30 (by decide) ?_
        refine cx_iret (v := (-1 : Int32)) hx hb hr rfl hlocks hw dd_A_stopAt_31 (by decide) (by decide) ?_
        exact ⟨by simp only [if_neg c1, if_neg c2, if_pos c3], rfl⟩
      · skip
        refine lv_aload_n hx hb dd_A_stopAt_21 rfl (lv_at hl 0 rfl) ?_
        refine pm_get (ci := 5) (C := cn_A) (T := cf_A) (N := 5) (v := .ref aB) hx hb hg gu_A hown hK.2.1 hw f0 rfl 2 (by decide) (hg _ gf_A_21) (fun _ h9 => h9) rfl dd_A_stopAt_22 ?_
        refine lv_iload_n hx hb dd_A_stopAt_25 rfl (lv_at hl 1 rfl) ?_
        refine pm_iald hx hb hK.2.1 hw 0 f1 rfl (vp_in_ge (n := 6) (by decide) c1 c3) dd_A_stopAt_26 ?_
        refine lv_goto (tgt := 31) hx hb dd_A_stopAt_27 (by decide) ?_
        refine cx_iret (v := (fB p1.toNatClampNeg)) hx hb hr rfl hlocks hw dd_A_stopAt_31 (by decide) (by decide) ?_
        exact ⟨by simp only [if_neg c1, if_neg c2, if_neg c3], rfl⟩

set_option maxHeartbeats 4000000 in
set_option maxRecDepth 100000 in
theorem c_C_stop (l : Launch) (hT : l.stackTraces = false) (z : Nat) (D : va_G) (ac : Nat → ClassId) (sa : Nat → Nat) (P : pm_T) (h0 aH aT aL aK aW : Nat) (nh nt al : Int32) (aC aY aB : Nat) (cn ls0 : Int32) (fC : Nat → Option Nat) (fY fB : Nat → Int32) (p1 : Int32) (f0 : P h0 = some (.inr (0, [.ref aH, .ref aT, .ref aL, .ref aK, .ref aW, .int nh, .int nt, .int al]))) (f1 : P aW = some (.inr (5, [.ref aC, .ref aY, .ref aB, .int cn, .int ls0]))) (f2 : P aB = some (.inl (ac 0, 6, .inl fB))) : cx_V l yy_C_stop bb_C_stop 2 (some .int) ({ frames := 7, cells := 1, slots := 6, locals := 138 } : Room) z D ac sa P [.ref h0, .int p1] (fun v P' => su_al [(su_nn p1, xn_IOB)] ∧ P' = P ∧ v = some (.int (if p1 < 0 then -1 else if cn ≤ p1 then -1 else if (6 : Int32) ≤ p1 then -1 else fB p1.toNatClampNeg))) (fun E P' => P' = P ∧ su_xs [(su_nn p1, xn_IOB)] E) := by
  refine cx_ofV (by decide) (Nat.le_of_ble_eq_true rfl) (fun p e s m below meth c ls hx hb hr hml hg hown hlocks hout hK hw hl => ?_)
  have hl : lv_has ls 2 [(0, .ref h0), (1, .int p1)] := hl
  have hown : s.vm.findClass cn_C = some m.cls := hown
  refine lv_iload_n hx hb dd_C_stop_0 rfl (lv_at hl 1 rfl) ?_
  refine cx_afterX (cx_rSX (n := 1) (As := [.int p1]) (rest := []) ⟨hx, hb, hml, hown, hg⟩ (c_C_needNotBelowZero l hT z D ac sa P p1) (cx_gs gm_C_168 gt_C_needNotBelowZero gn_C gc_C_needNotBelowZero) (by decide +kernel) ⟨by decide, by decide⟩ hK hw rfl hl.1 rfl (Nat.le_of_ble_eq_true rfl) dd_C_stop_1 ⟨by decide, by decide⟩) hw (fun E9 ce9 q9 P9 H locs hp hw hce hcv hcl => ?_) (fun v9 P9 H locs hp hw => ?_)
  · skip
    obtain ⟨rfl, e9, n1⟩ := hp
    rw [e9] at hw
    clear e9 P9
    refine cx_pass hout hlocks hce hcv hcl hw ?_ (by decide) (by decide)
    exact ⟨rfl, Or.inl ⟨n1, rfl⟩⟩
  · skip
    obtain ⟨rfl, e9, n2⟩ := hp
    rw [e9] at hw
    clear e9 P9
    refine W.eq (g2 := F0 m 4 ls []) rfl ?_
    refine lv_aload_n hx hb dd_C_stop_4 rfl (lv_at hl 0 rfl) ?_
    refine pm_get (ci := 0) (C := cn_C) (T := cf_C) (N := 8) (v := .ref aW) hx hb hg gu_C hown hK.2.1 hw f0 rfl 4 (by decide) (hg _ gf_C_35) (fun _ h9 => h9) rfl dd_C_stop_5 ?_
    refine lv_iload_n hx hb dd_C_stop_8 rfl (lv_at hl 1 rfl) ?_
    refine cx_after (cx_rV (n := 1) (As := [.int p1]) (rest := []) ⟨hx, hb, hml, hown, hg⟩ (c_A_stopAt l z D ac sa P aW aC aY aB cn ls0 fC fY fB p1 f1 f2) (cx_gv gm_C_220 gi_A_stopAt gs_A_stopAt gn_A gc_A_stopAt) (by decide +kernel) ⟨by decide, by decide⟩ hK hw f1 rfl rfl hl.1 rfl (Nat.le_of_ble_eq_true rfl) dd_C_stop_9 ⟨by decide, by decide⟩) hw (fun v9 P9 H locs hp hw => ?_)
    obtain ⟨rfl, e9⟩ := hp
    rw [e9] at hw
    clear e9 P9
    refine W.eq (g2 := F0 m 12 ls [.int (if p1 < 0 then -1 else if cn ≤ p1 then -1 else if (6 : Int32) ≤ p1 then -1 else fB p1.toNatClampNeg)]) rfl ?_
    refine vx_ret (cx_iret (v := (if p1 < 0 then -1 else if cn ≤ p1 then -1 else if (6 : Int32) ≤ p1 then -1 else fB p1.toNatClampNeg)) hx hb hr rfl hlocks hw dd_C_stop_12 (by decide) (by decide) ?_)
    exact ⟨⟨n2, trivial⟩, rfl, rfl⟩
