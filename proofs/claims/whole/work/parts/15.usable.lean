/-- does a work at a hydrant meet the days p1 .. p2 -/
def su_m1 (wf wt : Nat → Int32) (p1 p2 : Int32) (o : Option Nat) : Int32 := match o with
  | none => 0
  | some q => if wt q < p1 then 0 else if p2 < wf q then 0 else 1
def su_m3 (wf wt : Nat → Int32) (p1 p2 : Int32) (fw : Nat → Option Nat) : Int32 := if su_m1 wf wt p1 p2 (fw 0) = 0 then (if su_m1 wf wt p1 p2 (fw 1) = 0 then (if su_m1 wf wt p1 p2 (fw 2) = 0 then 0 else 1) else 1) else 1
def su_us (vd vk vr al d : Int32) (wf wt : Nat → Int32) (fw : Nat → Option Nat) : Int32 := if vd = 2 then 0 else if vk = 1 ∧ al = 0 then 0 else if su_dry vr d = 0 then (if su_m3 wf wt d d fw = 0 then 1 else 0) else 0

set_option maxHeartbeats 4000000 in
set_option maxRecDepth 100000 in
theorem c_H_hasWorksWithin (l : Launch) (z : Nat) (D : va_G) (ac : Nat → ClassId) (sa : Nat → Nat) (P : pm_T) (h0 aw : Nat) (vn vx vy vm vk vc vd vr vt : Int32) (ct : Option Nat) (wf wt : Nat → Int32) (fw : Nat → Option Nat) (p1 p2 : Int32) (fo : ∀ k q, fw k = some q → P q = some (.inr (3, [.int (wf q), .int (wt q)]))) (f0 : P h0 = some (.inr (1, [.int vn, .int vx, .int vy, .int vm, .int vk, .ref aw, .int vc, .int vd, .int vr, .int vt, va_rf ct]))) (f1 : P aw = some (.inl (ac 5, 3, .inr (.inr (.inr (.inr fw)))))) : cx_M l yy_H_hasWorksWithin bb_H_hasWorksWithin 7 (some .boolean) ({ frames := 1, cells := 0, slots := 0, locals := 22 } : Room) z D ac sa P [.ref h0, .int p1, .int p2] (fun v P' => v = some (.int (su_m3 wf wt p1 p2 fw)) ∧ P' = P) := by
  refine cx_ofM (by decide) (Nat.le_of_ble_eq_true rfl) (fun p e s m below meth c ls hx hb hr hml hg hown hlocks hin hK hw hl => ?_)
  have hl : lv_has ls 7 [(0, .ref h0), (1, .int p1), (2, .int p2)] := hl
  have hown : s.vm.findClass cn_H = some m.cls := hown
  refine lv_aload_n hx hb dd_H_hasWorksWithin_0 rfl (lv_at hl 0 rfl) ?_
  refine pm_get (ci := 1) (C := cn_H) (T := cf_H) (N := 11) (v := .ref aw) hx hb hg gu_H hown hK.2.1 hw f0 rfl 5 (by decide) (hg _ gf_H_11) (fun _ h9 => h9) rfl dd_H_hasWorksWithin_1 ?_
  refine lv_astore_n (lv' := [(3, .ref aw), (0, .ref h0), (1, .int p1), (2, .int p2)]) hx hb dd_H_hasWorksWithin_4 rfl hl (by decide) rfl (fun ls hl => ?_)
  refine lv_aload_n hx hb dd_H_hasWorksWithin_5 rfl (lv_at hl 0 rfl) ?_
  refine pm_alen (v := 3) hx hb hK.2.1 hw 5 f1 rfl rfl dd_H_hasWorksWithin_6 ?_
  refine lv_istore (lv' := [(4, .int (3 : Int32)), (3, .ref aw), (0, .ref h0), (1, .int p1), (2, .int p2)]) hx hb dd_H_hasWorksWithin_7 hl (by decide) rfl (fun ls hl => ?_)
  refine lv_iconst (v := 0) hx hb dd_H_hasWorksWithin_9 (by decide) ?_
  refine lv_istore (lv' := [(5, .int (0 : Int32)), (4, .int (3 : Int32)), (3, .ref aw), (0, .ref h0), (1, .int p1), (2, .int p2)]) hx hb dd_H_hasWorksWithin_10 hl (by decide) rfl (fun ls hl => ?_)
  refine lv_iload hx hb dd_H_hasWorksWithin_12 (lv_at hl 0 rfl) ?_
  refine lv_iload hx hb dd_H_hasWorksWithin_14 (lv_at hl 1 rfl) ?_
  refine lv_icmp_ge (tgt := 48) hx hb dd_H_hasWorksWithin_16 (by decide) (fun c1 => absurd c1 (by decide)) (fun c1 => ?_)
  refine lv_aload_n hx hb dd_H_hasWorksWithin_19 rfl (lv_at hl 2 rfl) ?_
  refine lv_iload hx hb dd_H_hasWorksWithin_20 (lv_at hl 0 rfl) ?_
  refine pm_aald hx hb hK.2.1 hw 5 f1 rfl (show vp_in (0 : Int32) 3 from vp_in_nI (n := 0) (by decide) (by decide)) dd_H_hasWorksWithin_22 ?_
  refine W.eq (g2 := F0 m 23 ls [va_rf (fw 0)]) rfl ?_
  rcases hq0 : fw 0 with _ | q0
  · skip
    refine W.eq (g2 := F0 m 23 ls [.null]) rfl ?_
    have d0 : su_m1 wf wt p1 p2 (fw 0) = 0 := by rw [hq0]; rfl
    refine lv_astoreN (lv' := [(6, .null), (5, .int (0 : Int32)), (4, .int (3 : Int32)), (3, .ref aw), (0, .ref h0), (1, .int p1), (2, .int p2)]) hx hb dd_H_hasWorksWithin_23 hl (by decide) rfl (fun ls hl => ?_)
    refine lv_aloadN hx hb dd_H_hasWorksWithin_25 (lv_at hl 0 rfl) ?_
    refine lv_ifnullN (tgt := 42) hx hb dd_H_hasWorksWithin_27 (by decide) ?_
    refine lv_iinc (v := (1)) (lv' := [(5, .int (1 : Int32)), (6, .null), (4, .int (3 : Int32)), (3, .ref aw), (0, .ref h0), (1, .int p1), (2, .int p2)]) hx hb dd_H_hasWorksWithin_42 hl (k := 1) rfl (by decide) (by decide) rfl (fun ls hl => ?_)
    refine lv_goto (tgt := 12) hx hb dd_H_hasWorksWithin_45 (by decide) ?_
    refine lv_iload hx hb dd_H_hasWorksWithin_12 (lv_at hl 0 rfl) ?_
    refine lv_iload hx hb dd_H_hasWorksWithin_14 (lv_at hl 2 rfl) ?_
    refine lv_icmp_ge (tgt := 48) hx hb dd_H_hasWorksWithin_16 (by decide) (fun c2 => absurd c2 (by decide)) (fun c2 => ?_)
    refine lv_aload_n hx hb dd_H_hasWorksWithin_19 rfl (lv_at hl 3 rfl) ?_
    refine lv_iload hx hb dd_H_hasWorksWithin_20 (lv_at hl 0 rfl) ?_
    refine pm_aald hx hb hK.2.1 hw 5 f1 rfl (show vp_in (1 : Int32) 3 from vp_in_nI (n := 1) (by decide) (by decide)) dd_H_hasWorksWithin_22 ?_
    refine W.eq (g2 := F0 m 23 ls [va_rf (fw 1)]) rfl ?_
    rcases hq1 : fw 1 with _ | q1
    · skip
      refine W.eq (g2 := F0 m 23 ls [.null]) rfl ?_
      have d1 : su_m1 wf wt p1 p2 (fw 1) = 0 := by rw [hq1]; rfl
      refine lv_astoreN (lv' := [(6, .null), (5, .int (1 : Int32)), (4, .int (3 : Int32)), (3, .ref aw), (0, .ref h0), (1, .int p1), (2, .int p2)]) hx hb dd_H_hasWorksWithin_23 hl (by decide) rfl (fun ls hl => ?_)
      refine lv_aloadN hx hb dd_H_hasWorksWithin_25 (lv_at hl 0 rfl) ?_
      refine lv_ifnullN (tgt := 42) hx hb dd_H_hasWorksWithin_27 (by decide) ?_
      refine lv_iinc (v := (2)) (lv' := [(5, .int (2 : Int32)), (6, .null), (4, .int (3 : Int32)), (3, .ref aw), (0, .ref h0), (1, .int p1), (2, .int p2)]) hx hb dd_H_hasWorksWithin_42 hl (k := 1) rfl (by decide) (by decide) rfl (fun ls hl => ?_)
      refine lv_goto (tgt := 12) hx hb dd_H_hasWorksWithin_45 (by decide) ?_
      refine lv_iload hx hb dd_H_hasWorksWithin_12 (lv_at hl 0 rfl) ?_
      refine lv_iload hx hb dd_H_hasWorksWithin_14 (lv_at hl 2 rfl) ?_
      refine lv_icmp_ge (tgt := 48) hx hb dd_H_hasWorksWithin_16 (by decide) (fun c3 => absurd c3 (by decide)) (fun c3 => ?_)
      refine lv_aload_n hx hb dd_H_hasWorksWithin_19 rfl (lv_at hl 3 rfl) ?_
      refine lv_iload hx hb dd_H_hasWorksWithin_20 (lv_at hl 0 rfl) ?_
      refine pm_aald hx hb hK.2.1 hw 5 f1 rfl (show vp_in (2 : Int32) 3 from vp_in_nI (n := 2) (by decide) (by decide)) dd_H_hasWorksWithin_22 ?_
      refine W.eq (g2 := F0 m 23 ls [va_rf (fw 2)]) rfl ?_
      rcases hq2 : fw 2 with _ | q2
      · skip
        refine W.eq (g2 := F0 m 23 ls [.null]) rfl ?_
        have d2 : su_m1 wf wt p1 p2 (fw 2) = 0 := by rw [hq2]; rfl
        refine lv_astoreN (lv' := [(6, .null), (5, .int (2 : Int32)), (4, .int (3 : Int32)), (3, .ref aw), (0, .ref h0), (1, .int p1), (2, .int p2)]) hx hb dd_H_hasWorksWithin_23 hl (by decide) rfl (fun ls hl => ?_)
        refine lv_aloadN hx hb dd_H_hasWorksWithin_25 (lv_at hl 0 rfl) ?_
        refine lv_ifnullN (tgt := 42) hx hb dd_H_hasWorksWithin_27 (by decide) ?_
        refine lv_iinc (v := (3)) (lv' := [(5, .int (3 : Int32)), (6, .null), (4, .int (3 : Int32)), (3, .ref aw), (0, .ref h0), (1, .int p1), (2, .int p2)]) hx hb dd_H_hasWorksWithin_42 hl (k := 1) rfl (by decide) (by decide) rfl (fun ls hl => ?_)
        refine lv_goto (tgt := 12) hx hb dd_H_hasWorksWithin_45 (by decide) ?_
        refine lv_iload hx hb dd_H_hasWorksWithin_12 (lv_at hl 0 rfl) ?_
        refine lv_iload hx hb dd_H_hasWorksWithin_14 (lv_at hl 2 rfl) ?_
        refine lv_icmp_ge (tgt := 48) hx hb dd_H_hasWorksWithin_16 (by decide) (fun c4 => ?_) (fun c4 => absurd (by decide) c4)
        refine lv_iconst (v := 0) hx hb dd_H_hasWorksWithin_48 (by decide) ?_
        refine cx_iret (v := (0 : Int32)) hx hb hr (by decide) hlocks hw dd_H_hasWorksWithin_49 (by decide) (by decide) ?_
        exact ⟨by rw [su_m3, if_pos d0, if_pos d1, if_pos d2], rfl⟩
      · skip
        refine W.eq (g2 := F0 m 23 ls [.ref q2]) rfl ?_
        refine lv_astore (lv' := [(6, .ref q2), (5, .int (2 : Int32)), (4, .int (3 : Int32)), (3, .ref aw), (0, .ref h0), (1, .int p1), (2, .int p2)]) hx hb dd_H_hasWorksWithin_23 hl (by decide) rfl (fun ls hl => ?_)
        refine lv_aload hx hb dd_H_hasWorksWithin_25 (lv_at hl 0 rfl) ?_
        refine lv_ifnull hx hb dd_H_hasWorksWithin_27 ?_
        refine lv_aload hx hb dd_H_hasWorksWithin_30 (lv_at hl 0 rfl) ?_
        refine lv_iload_n hx hb dd_H_hasWorksWithin_32 rfl (lv_at hl 5 rfl) ?_
        refine lv_iload_n hx hb dd_H_hasWorksWithin_33 rfl (lv_at hl 6 rfl) ?_
        refine cx_after (cx_rV (n := 2) (As := [.int p1, .int p2]) (rest := []) ⟨hx, hb, hml, hown, hg⟩ (c_O_meet l z D ac sa P q2 (wf q2) (wt q2) p1 p2 (fo 2 q2 hq2)) (cx_gv gm_H_55 gi_O_meet gs_O_meet gn_O gc_O_meet) (by decide +kernel) ⟨by decide, by decide⟩ hK hw (fo 2 q2 hq2) rfl rfl hl.1 rfl (Nat.le_of_ble_eq_true rfl) dd_H_hasWorksWithin_34 ⟨by decide, by decide⟩) hw (fun v9 P9 H locs hp hw => ?_)
        obtain ⟨rfl, e9⟩ := hp
        rw [e9] at hw
        clear e9 P9
        refine W.eq (g2 := F0 m 37 ls [.int (if (wt q2) < p1 then 0 else if p2 < (wf q2) then 0 else 1)]) rfl ?_
        refine lv_if_eq (tgt := 42) hx hb dd_H_hasWorksWithin_37 (by decide) (fun c5 => ?_) (fun c5 => ?_)
        · skip
          refine lv_iinc (v := (3)) (lv' := [(5, .int (3 : Int32)), (6, .ref q2), (4, .int (3 : Int32)), (3, .ref aw), (0, .ref h0), (1, .int p1), (2, .int p2)]) hx hb dd_H_hasWorksWithin_42 hl (k := 1) rfl (by decide) (by decide) rfl (fun ls hl => ?_)
          refine lv_goto (tgt := 12) hx hb dd_H_hasWorksWithin_45 (by decide) ?_
          refine lv_iload hx hb dd_H_hasWorksWithin_12 (lv_at hl 0 rfl) ?_
          refine lv_iload hx hb dd_H_hasWorksWithin_14 (lv_at hl 2 rfl) ?_
          refine lv_icmp_ge (tgt := 48) hx hb dd_H_hasWorksWithin_16 (by decide) (fun c6 => ?_) (fun c6 => absurd (by decide) c6)
          refine lv_iconst (v := 0) hx hb dd_H_hasWorksWithin_48 (by decide) ?_
          refine cx_iret (v := (0 : Int32)) hx hb hr (by decide) hlocks hw dd_H_hasWorksWithin_49 (by decide) (by decide) ?_
          have d2 : su_m1 wf wt p1 p2 (fw 2) = 0 := by rw [hq2]; exact c5
          exact ⟨by rw [su_m3, if_pos d0, if_pos d1, if_pos d2], rfl⟩
        · skip
          refine lv_iconst (v := 1) hx hb dd_H_hasWorksWithin_40 (by decide) ?_
          refine cx_iret (v := (1 : Int32)) hx hb hr (by decide) hlocks hw dd_H_hasWorksWithin_41 (by decide) (by decide) ?_
          have d2 : ¬ su_m1 wf wt p1 p2 (fw 2) = 0 := by rw [hq2]; exact c5
          exact ⟨by rw [su_m3, if_pos d0, if_pos d1, if_neg d2], rfl⟩
    · skip
      refine W.eq (g2 := F0 m 23 ls [.ref q1]) rfl ?_
      refine lv_astore (lv' := [(6, .ref q1), (5, .int (1 : Int32)), (4, .int (3 : Int32)), (3, .ref aw), (0, .ref h0), (1, .int p1), (2, .int p2)]) hx hb dd_H_hasWorksWithin_23 hl (by decide) rfl (fun ls hl => ?_)
      refine lv_aload hx hb dd_H_hasWorksWithin_25 (lv_at hl 0 rfl) ?_
      refine lv_ifnull hx hb dd_H_hasWorksWithin_27 ?_
      refine lv_aload hx hb dd_H_hasWorksWithin_30 (lv_at hl 0 rfl) ?_
      refine lv_iload_n hx hb dd_H_hasWorksWithin_32 rfl (lv_at hl 5 rfl) ?_
      refine lv_iload_n hx hb dd_H_hasWorksWithin_33 rfl (lv_at hl 6 rfl) ?_
      refine cx_after (cx_rV (n := 2) (As := [.int p1, .int p2]) (rest := []) ⟨hx, hb, hml, hown, hg⟩ (c_O_meet l z D ac sa P q1 (wf q1) (wt q1) p1 p2 (fo 1 q1 hq1)) (cx_gv gm_H_55 gi_O_meet gs_O_meet gn_O gc_O_meet) (by decide +kernel) ⟨by decide, by decide⟩ hK hw (fo 1 q1 hq1) rfl rfl hl.1 rfl (Nat.le_of_ble_eq_true rfl) dd_H_hasWorksWithin_34 ⟨by decide, by decide⟩) hw (fun v9 P9 H locs hp hw => ?_)
      obtain ⟨rfl, e9⟩ := hp
      rw [e9] at hw
      clear e9 P9
      refine W.eq (g2 := F0 m 37 ls [.int (if (wt q1) < p1 then 0 else if p2 < (wf q1) then 0 else 1)]) rfl ?_
      refine lv_if_eq (tgt := 42) hx hb dd_H_hasWorksWithin_37 (by decide) (fun c7 => ?_) (fun c7 => ?_)
      · skip
        refine lv_iinc (v := (2)) (lv' := [(5, .int (2 : Int32)), (6, .ref q1), (4, .int (3 : Int32)), (3, .ref aw), (0, .ref h0), (1, .int p1), (2, .int p2)]) hx hb dd_H_hasWorksWithin_42 hl (k := 1) rfl (by decide) (by decide) rfl (fun ls hl => ?_)
        refine lv_goto (tgt := 12) hx hb dd_H_hasWorksWithin_45 (by decide) ?_
        refine lv_iload hx hb dd_H_hasWorksWithin_12 (lv_at hl 0 rfl) ?_
        refine lv_iload hx hb dd_H_hasWorksWithin_14 (lv_at hl 2 rfl) ?_
        refine lv_icmp_ge (tgt := 48) hx hb dd_H_hasWorksWithin_16 (by decide) (fun c8 => absurd c8 (by decide)) (fun c8 => ?_)
        refine lv_aload_n hx hb dd_H_hasWorksWithin_19 rfl (lv_at hl 3 rfl) ?_
        refine lv_iload hx hb dd_H_hasWorksWithin_20 (lv_at hl 0 rfl) ?_
        refine pm_aald hx hb hK.2.1 hw 5 f1 rfl (show vp_in (2 : Int32) 3 from vp_in_nI (n := 2) (by decide) (by decide)) dd_H_hasWorksWithin_22 ?_
        refine W.eq (g2 := F0 m 23 ls [va_rf (fw 2)]) rfl ?_
        rcases hq2 : fw 2 with _ | q2
        · skip
          refine W.eq (g2 := F0 m 23 ls [.null]) rfl ?_
          have d2 : su_m1 wf wt p1 p2 (fw 2) = 0 := by rw [hq2]; rfl
          refine lv_astoreN (lv' := [(6, .null), (5, .int (2 : Int32)), (4, .int (3 : Int32)), (3, .ref aw), (0, .ref h0), (1, .int p1), (2, .int p2)]) hx hb dd_H_hasWorksWithin_23 hl (by decide) rfl (fun ls hl => ?_)
          refine lv_aloadN hx hb dd_H_hasWorksWithin_25 (lv_at hl 0 rfl) ?_
          refine lv_ifnullN (tgt := 42) hx hb dd_H_hasWorksWithin_27 (by decide) ?_
          refine lv_iinc (v := (3)) (lv' := [(5, .int (3 : Int32)), (6, .null), (4, .int (3 : Int32)), (3, .ref aw), (0, .ref h0), (1, .int p1), (2, .int p2)]) hx hb dd_H_hasWorksWithin_42 hl (k := 1) rfl (by decide) (by decide) rfl (fun ls hl => ?_)
          refine lv_goto (tgt := 12) hx hb dd_H_hasWorksWithin_45 (by decide) ?_
          refine lv_iload hx hb dd_H_hasWorksWithin_12 (lv_at hl 0 rfl) ?_
          refine lv_iload hx hb dd_H_hasWorksWithin_14 (lv_at hl 2 rfl) ?_
          refine lv_icmp_ge (tgt := 48) hx hb dd_H_hasWorksWithin_16 (by decide) (fun c9 => ?_) (fun c9 => absurd (by decide) c9)
          refine lv_iconst (v := 0) hx hb dd_H_hasWorksWithin_48 (by decide) ?_
          refine cx_iret (v := (0 : Int32)) hx hb hr (by decide) hlocks hw dd_H_hasWorksWithin_49 (by decide) (by decide) ?_
          have d1 : su_m1 wf wt p1 p2 (fw 1) = 0 := by rw [hq1]; exact c7
          exact ⟨by rw [su_m3, if_pos d0, if_pos d1, if_pos d2], rfl⟩
        · skip
          refine W.eq (g2 := F0 m 23 ls [.ref q2]) rfl ?_
          refine lv_astore (lv' := [(6, .ref q2), (5, .int (2 : Int32)), (4, .int (3 : Int32)), (3, .ref aw), (0, .ref h0), (1, .int p1), (2, .int p2)]) hx hb dd_H_hasWorksWithin_23 hl (by decide) rfl (fun ls hl => ?_)
          refine lv_aload hx hb dd_H_hasWorksWithin_25 (lv_at hl 0 rfl) ?_
          refine lv_ifnull hx hb dd_H_hasWorksWithin_27 ?_
          refine lv_aload hx hb dd_H_hasWorksWithin_30 (lv_at hl 0 rfl) ?_
          refine lv_iload_n hx hb dd_H_hasWorksWithin_32 rfl (lv_at hl 5 rfl) ?_
          refine lv_iload_n hx hb dd_H_hasWorksWithin_33 rfl (lv_at hl 6 rfl) ?_
          refine cx_after (cx_rV (n := 2) (As := [.int p1, .int p2]) (rest := []) ⟨hx, hb, hml, hown, hg⟩ (c_O_meet l z D ac sa P q2 (wf q2) (wt q2) p1 p2 (fo 2 q2 hq2)) (cx_gv gm_H_55 gi_O_meet gs_O_meet gn_O gc_O_meet) (by decide +kernel) ⟨by decide, by decide⟩ hK hw (fo 2 q2 hq2) rfl rfl hl.1 rfl (Nat.le_of_ble_eq_true rfl) dd_H_hasWorksWithin_34 ⟨by decide, by decide⟩) hw (fun v9 P9 H locs hp hw => ?_)
          obtain ⟨rfl, e9⟩ := hp
          rw [e9] at hw
          clear e9 P9
          refine W.eq (g2 := F0 m 37 ls [.int (if (wt q2) < p1 then 0 else if p2 < (wf q2) then 0 else 1)]) rfl ?_
          refine lv_if_eq (tgt := 42) hx hb dd_H_hasWorksWithin_37 (by decide) (fun c10 => ?_) (fun c10 => ?_)
          · skip
            refine lv_iinc (v := (3)) (lv' := [(5, .int (3 : Int32)), (6, .ref q2), (4, .int (3 : Int32)), (3, .ref aw), (0, .ref h0), (1, .int p1), (2, .int p2)]) hx hb dd_H_hasWorksWithin_42 hl (k := 1) rfl (by decide) (by decide) rfl (fun ls hl => ?_)
            refine lv_goto (tgt := 12) hx hb dd_H_hasWorksWithin_45 (by decide) ?_
            refine lv_iload hx hb dd_H_hasWorksWithin_12 (lv_at hl 0 rfl) ?_
            refine lv_iload hx hb dd_H_hasWorksWithin_14 (lv_at hl 2 rfl) ?_
            refine lv_icmp_ge (tgt := 48) hx hb dd_H_hasWorksWithin_16 (by decide) (fun c11 => ?_) (fun c11 => absurd (by decide) c11)
            refine lv_iconst (v := 0) hx hb dd_H_hasWorksWithin_48 (by decide) ?_
            refine cx_iret (v := (0 : Int32)) hx hb hr (by decide) hlocks hw dd_H_hasWorksWithin_49 (by decide) (by decide) ?_
            have d1 : su_m1 wf wt p1 p2 (fw 1) = 0 := by rw [hq1]; exact c7
            have d2 : su_m1 wf wt p1 p2 (fw 2) = 0 := by rw [hq2]; exact c10
            exact ⟨by rw [su_m3, if_pos d0, if_pos d1, if_pos d2], rfl⟩
          · skip
            refine lv_iconst (v := 1) hx hb dd_H_hasWorksWithin_40 (by decide) ?_
            refine cx_iret (v := (1 : Int32)) hx hb hr (by decide) hlocks hw dd_H_hasWorksWithin_41 (by decide) (by decide) ?_
            have d1 : su_m1 wf wt p1 p2 (fw 1) = 0 := by rw [hq1]; exact c7
            have d2 : ¬ su_m1 wf wt p1 p2 (fw 2) = 0 := by rw [hq2]; exact c10
            exact ⟨by rw [su_m3, if_pos d0, if_pos d1, if_neg d2], rfl⟩
      · skip
        refine lv_iconst (v := 1) hx hb dd_H_hasWorksWithin_40 (by decide) ?_
        refine cx_iret (v := (1 : Int32)) hx hb hr (by decide) hlocks hw dd_H_hasWorksWithin_41 (by decide) (by decide) ?_
        have d1 : ¬ su_m1 wf wt p1 p2 (fw 1) = 0 := by rw [hq1]; exact c7
        exact ⟨by rw [su_m3, if_pos d0, if_neg d1], rfl⟩
  · skip
    refine W.eq (g2 := F0 m 23 ls [.ref q0]) rfl ?_
    refine lv_astore (lv' := [(6, .ref q0), (5, .int (0 : Int32)), (4, .int (3 : Int32)), (3, .ref aw), (0, .ref h0), (1, .int p1), (2, .int p2)]) hx hb dd_H_hasWorksWithin_23 hl (by decide) rfl (fun ls hl => ?_)
    refine lv_aload hx hb dd_H_hasWorksWithin_25 (lv_at hl 0 rfl) ?_
    refine lv_ifnull hx hb dd_H_hasWorksWithin_27 ?_
    refine lv_aload hx hb dd_H_hasWorksWithin_30 (lv_at hl 0 rfl) ?_
    refine lv_iload_n hx hb dd_H_hasWorksWithin_32 rfl (lv_at hl 5 rfl) ?_
    refine lv_iload_n hx hb dd_H_hasWorksWithin_33 rfl (lv_at hl 6 rfl) ?_
    refine cx_after (cx_rV (n := 2) (As := [.int p1, .int p2]) (rest := []) ⟨hx, hb, hml, hown, hg⟩ (c_O_meet l z D ac sa P q0 (wf q0) (wt q0) p1 p2 (fo 0 q0 hq0)) (cx_gv gm_H_55 gi_O_meet gs_O_meet gn_O gc_O_meet) (by decide +kernel) ⟨by decide, by decide⟩ hK hw (fo 0 q0 hq0) rfl rfl hl.1 rfl (Nat.le_of_ble_eq_true rfl) dd_H_hasWorksWithin_34 ⟨by decide, by decide⟩) hw (fun v9 P9 H locs hp hw => ?_)
    obtain ⟨rfl, e9⟩ := hp
    rw [e9] at hw
    clear e9 P9
    refine W.eq (g2 := F0 m 37 ls [.int (if (wt q0) < p1 then 0 else if p2 < (wf q0) then 0 else 1)]) rfl ?_
    refine lv_if_eq (tgt := 42) hx hb dd_H_hasWorksWithin_37 (by decide) (fun c12 => ?_) (fun c12 => ?_)
    · skip
      refine lv_iinc (v := (1)) (lv' := [(5, .int (1 : Int32)), (6, .ref q0), (4, .int (3 : Int32)), (3, .ref aw), (0, .ref h0), (1, .int p1), (2, .int p2)]) hx hb dd_H_hasWorksWithin_42 hl (k := 1) rfl (by decide) (by decide) rfl (fun ls hl => ?_)
      refine lv_goto (tgt := 12) hx hb dd_H_hasWorksWithin_45 (by decide) ?_
      refine lv_iload hx hb dd_H_hasWorksWithin_12 (lv_at hl 0 rfl) ?_
      refine lv_iload hx hb dd_H_hasWorksWithin_14 (lv_at hl 2 rfl) ?_
      refine lv_icmp_ge (tgt := 48) hx hb dd_H_hasWorksWithin_16 (by decide) (fun c13 => absurd c13 (by decide)) (fun c13 => ?_)
      refine lv_aload_n hx hb dd_H_hasWorksWithin_19 rfl (lv_at hl 3 rfl) ?_
      refine lv_iload hx hb dd_H_hasWorksWithin_20 (lv_at hl 0 rfl) ?_
      refine pm_aald hx hb hK.2.1 hw 5 f1 rfl (show vp_in (1 : Int32) 3 from vp_in_nI (n := 1) (by decide) (by decide)) dd_H_hasWorksWithin_22 ?_
      refine W.eq (g2 := F0 m 23 ls [va_rf (fw 1)]) rfl ?_
      rcases hq1 : fw 1 with _ | q1
      · skip
        refine W.eq (g2 := F0 m 23 ls [.null]) rfl ?_
        have d1 : su_m1 wf wt p1 p2 (fw 1) = 0 := by rw [hq1]; rfl
        refine lv_astoreN (lv' := [(6, .null), (5, .int (1 : Int32)), (4, .int (3 : Int32)), (3, .ref aw), (0, .ref h0), (1, .int p1), (2, .int p2)]) hx hb dd_H_hasWorksWithin_23 hl (by decide) rfl (fun ls hl => ?_)
        refine lv_aloadN hx hb dd_H_hasWorksWithin_25 (lv_at hl 0 rfl) ?_
        refine lv_ifnullN (tgt := 42) hx hb dd_H_hasWorksWithin_27 (by decide) ?_
        refine lv_iinc (v := (2)) (lv' := [(5, .int (2 : Int32)), (6, .null), (4, .int (3 : Int32)), (3, .ref aw), (0, .ref h0), (1, .int p1), (2, .int p2)]) hx hb dd_H_hasWorksWithin_42 hl (k := 1) rfl (by decide) (by decide) rfl (fun ls hl => ?_)
        refine lv_goto (tgt := 12) hx hb dd_H_hasWorksWithin_45 (by decide) ?_
        refine lv_iload hx hb dd_H_hasWorksWithin_12 (lv_at hl 0 rfl) ?_
        refine lv_iload hx hb dd_H_hasWorksWithin_14 (lv_at hl 2 rfl) ?_
        refine lv_icmp_ge (tgt := 48) hx hb dd_H_hasWorksWithin_16 (by decide) (fun c14 => absurd c14 (by decide)) (fun c14 => ?_)
        refine lv_aload_n hx hb dd_H_hasWorksWithin_19 rfl (lv_at hl 3 rfl) ?_
        refine lv_iload hx hb dd_H_hasWorksWithin_20 (lv_at hl 0 rfl) ?_
        refine pm_aald hx hb hK.2.1 hw 5 f1 rfl (show vp_in (2 : Int32) 3 from vp_in_nI (n := 2) (by decide) (by decide)) dd_H_hasWorksWithin_22 ?_
        refine W.eq (g2 := F0 m 23 ls [va_rf (fw 2)]) rfl ?_
        rcases hq2 : fw 2 with _ | q2
        · skip
          refine W.eq (g2 := F0 m 23 ls [.null]) rfl ?_
          have d2 : su_m1 wf wt p1 p2 (fw 2) = 0 := by rw [hq2]; rfl
          refine lv_astoreN (lv' := [(6, .null), (5, .int (2 : Int32)), (4, .int (3 : Int32)), (3, .ref aw), (0, .ref h0), (1, .int p1), (2, .int p2)]) hx hb dd_H_hasWorksWithin_23 hl (by decide) rfl (fun ls hl => ?_)
          refine lv_aloadN hx hb dd_H_hasWorksWithin_25 (lv_at hl 0 rfl) ?_
          refine lv_ifnullN (tgt := 42) hx hb dd_H_hasWorksWithin_27 (by decide) ?_
          refine lv_iinc (v := (3)) (lv' := [(5, .int (3 : Int32)), (6, .null), (4, .int (3 : Int32)), (3, .ref aw), (0, .ref h0), (1, .int p1), (2, .int p2)]) hx hb dd_H_hasWorksWithin_42 hl (k := 1) rfl (by decide) (by decide) rfl (fun ls hl => ?_)
          refine lv_goto (tgt := 12) hx hb dd_H_hasWorksWithin_45 (by decide) ?_
          refine lv_iload hx hb dd_H_hasWorksWithin_12 (lv_at hl 0 rfl) ?_
          refine lv_iload hx hb dd_H_hasWorksWithin_14 (lv_at hl 2 rfl) ?_
          refine lv_icmp_ge (tgt := 48) hx hb dd_H_hasWorksWithin_16 (by decide) (fun c15 => ?_) (fun c15 => absurd (by decide) c15)
          refine lv_iconst (v := 0) hx hb dd_H_hasWorksWithin_48 (by decide) ?_
          refine cx_iret (v := (0 : Int32)) hx hb hr (by decide) hlocks hw dd_H_hasWorksWithin_49 (by decide) (by decide) ?_
          have d0 : su_m1 wf wt p1 p2 (fw 0) = 0 := by rw [hq0]; exact c12
          exact ⟨by rw [su_m3, if_pos d0, if_pos d1, if_pos d2], rfl⟩
        · skip
          refine W.eq (g2 := F0 m 23 ls [.ref q2]) rfl ?_
          refine lv_astore (lv' := [(6, .ref q2), (5, .int (2 : Int32)), (4, .int (3 : Int32)), (3, .ref aw), (0, .ref h0), (1, .int p1), (2, .int p2)]) hx hb dd_H_hasWorksWithin_23 hl (by decide) rfl (fun ls hl => ?_)
          refine lv_aload hx hb dd_H_hasWorksWithin_25 (lv_at hl 0 rfl) ?_
          refine lv_ifnull hx hb dd_H_hasWorksWithin_27 ?_
          refine lv_aload hx hb dd_H_hasWorksWithin_30 (lv_at hl 0 rfl) ?_
          refine lv_iload_n hx hb dd_H_hasWorksWithin_32 rfl (lv_at hl 5 rfl) ?_
          refine lv_iload_n hx hb dd_H_hasWorksWithin_33 rfl (lv_at hl 6 rfl) ?_
          refine cx_after (cx_rV (n := 2) (As := [.int p1, .int p2]) (rest := []) ⟨hx, hb, hml, hown, hg⟩ (c_O_meet l z D ac sa P q2 (wf q2) (wt q2) p1 p2 (fo 2 q2 hq2)) (cx_gv gm_H_55 gi_O_meet gs_O_meet gn_O gc_O_meet) (by decide +kernel) ⟨by decide, by decide⟩ hK hw (fo 2 q2 hq2) rfl rfl hl.1 rfl (Nat.le_of_ble_eq_true rfl) dd_H_hasWorksWithin_34 ⟨by decide, by decide⟩) hw (fun v9 P9 H locs hp hw => ?_)
          obtain ⟨rfl, e9⟩ := hp
          rw [e9] at hw
          clear e9 P9
          refine W.eq (g2 := F0 m 37 ls [.int (if (wt q2) < p1 then 0 else if p2 < (wf q2) then 0 else 1)]) rfl ?_
          refine lv_if_eq (tgt := 42) hx hb dd_H_hasWorksWithin_37 (by decide) (fun c16 => ?_) (fun c16 => ?_)
          · skip
            refine lv_iinc (v := (3)) (lv' := [(5, .int (3 : Int32)), (6, .ref q2), (4, .int (3 : Int32)), (3, .ref aw), (0, .ref h0), (1, .int p1), (2, .int p2)]) hx hb dd_H_hasWorksWithin_42 hl (k := 1) rfl (by decide) (by decide) rfl (fun ls hl => ?_)
            refine lv_goto (tgt := 12) hx hb dd_H_hasWorksWithin_45 (by decide) ?_
            refine lv_iload hx hb dd_H_hasWorksWithin_12 (lv_at hl 0 rfl) ?_
            refine lv_iload hx hb dd_H_hasWorksWithin_14 (lv_at hl 2 rfl) ?_
            refine lv_icmp_ge (tgt := 48) hx hb dd_H_hasWorksWithin_16 (by decide) (fun c17 => ?_) (fun c17 => absurd (by decide) c17)
            refine lv_iconst (v := 0) hx hb dd_H_hasWorksWithin_48 (by decide) ?_
            refine cx_iret (v := (0 : Int32)) hx hb hr (by decide) hlocks hw dd_H_hasWorksWithin_49 (by decide) (by decide) ?_
            have d0 : su_m1 wf wt p1 p2 (fw 0) = 0 := by rw [hq0]; exact c12
            have d2 : su_m1 wf wt p1 p2 (fw 2) = 0 := by rw [hq2]; exact c16
            exact ⟨by rw [su_m3, if_pos d0, if_pos d1, if_pos d2], rfl⟩
          · skip
            refine lv_iconst (v := 1) hx hb dd_H_hasWorksWithin_40 (by decide) ?_
            refine cx_iret (v := (1 : Int32)) hx hb hr (by decide) hlocks hw dd_H_hasWorksWithin_41 (by decide) (by decide) ?_
            have d0 : su_m1 wf wt p1 p2 (fw 0) = 0 := by rw [hq0]; exact c12
            have d2 : ¬ su_m1 wf wt p1 p2 (fw 2) = 0 := by rw [hq2]; exact c16
            exact ⟨by rw [su_m3, if_pos d0, if_pos d1, if_neg d2], rfl⟩
      · skip
        refine W.eq (g2 := F0 m 23 ls [.ref q1]) rfl ?_
        refine lv_astore (lv' := [(6, .ref q1), (5, .int (1 : Int32)), (4, .int (3 : Int32)), (3, .ref aw), (0, .ref h0), (1, .int p1), (2, .int p2)]) hx hb dd_H_hasWorksWithin_23 hl (by decide) rfl (fun ls hl => ?_)
        refine lv_aload hx hb dd_H_hasWorksWithin_25 (lv_at hl 0 rfl) ?_
        refine lv_ifnull hx hb dd_H_hasWorksWithin_27 ?_
        refine lv_aload hx hb dd_H_hasWorksWithin_30 (lv_at hl 0 rfl) ?_
        refine lv_iload_n hx hb dd_H_hasWorksWithin_32 rfl (lv_at hl 5 rfl) ?_
        refine lv_iload_n hx hb dd_H_hasWorksWithin_33 rfl (lv_at hl 6 rfl) ?_
        refine cx_after (cx_rV (n := 2) (As := [.int p1, .int p2]) (rest := []) ⟨hx, hb, hml, hown, hg⟩ (c_O_meet l z D ac sa P q1 (wf q1) (wt q1) p1 p2 (fo 1 q1 hq1)) (cx_gv gm_H_55 gi_O_meet gs_O_meet gn_O gc_O_meet) (by decide +kernel) ⟨by decide, by decide⟩ hK hw (fo 1 q1 hq1) rfl rfl hl.1 rfl (Nat.le_of_ble_eq_true rfl) dd_H_hasWorksWithin_34 ⟨by decide, by decide⟩) hw (fun v9 P9 H locs hp hw => ?_)
        obtain ⟨rfl, e9⟩ := hp
        rw [e9] at hw
        clear e9 P9
        refine W.eq (g2 := F0 m 37 ls [.int (if (wt q1) < p1 then 0 else if p2 < (wf q1) then 0 else 1)]) rfl ?_
        refine lv_if_eq (tgt := 42) hx hb dd_H_hasWorksWithin_37 (by decide) (fun c18 => ?_) (fun c18 => ?_)
        · skip
          refine lv_iinc (v := (2)) (lv' := [(5, .int (2 : Int32)), (6, .ref q1), (4, .int (3 : Int32)), (3, .ref aw), (0, .ref h0), (1, .int p1), (2, .int p2)]) hx hb dd_H_hasWorksWithin_42 hl (k := 1) rfl (by decide) (by decide) rfl (fun ls hl => ?_)
          refine lv_goto (tgt := 12) hx hb dd_H_hasWorksWithin_45 (by decide) ?_
          refine lv_iload hx hb dd_H_hasWorksWithin_12 (lv_at hl 0 rfl) ?_
          refine lv_iload hx hb dd_H_hasWorksWithin_14 (lv_at hl 2 rfl) ?_
          refine lv_icmp_ge (tgt := 48) hx hb dd_H_hasWorksWithin_16 (by decide) (fun c19 => absurd c19 (by decide)) (fun c19 => ?_)
          refine lv_aload_n hx hb dd_H_hasWorksWithin_19 rfl (lv_at hl 3 rfl) ?_
          refine lv_iload hx hb dd_H_hasWorksWithin_20 (lv_at hl 0 rfl) ?_
          refine pm_aald hx hb hK.2.1 hw 5 f1 rfl (show vp_in (2 : Int32) 3 from vp_in_nI (n := 2) (by decide) (by decide)) dd_H_hasWorksWithin_22 ?_
          refine W.eq (g2 := F0 m 23 ls [va_rf (fw 2)]) rfl ?_
          rcases hq2 : fw 2 with _ | q2
          · skip
            refine W.eq (g2 := F0 m 23 ls [.null]) rfl ?_
            have d2 : su_m1 wf wt p1 p2 (fw 2) = 0 := by rw [hq2]; rfl
            refine lv_astoreN (lv' := [(6, .null), (5, .int (2 : Int32)), (4, .int (3 : Int32)), (3, .ref aw), (0, .ref h0), (1, .int p1), (2, .int p2)]) hx hb dd_H_hasWorksWithin_23 hl (by decide) rfl (fun ls hl => ?_)
            refine lv_aloadN hx hb dd_H_hasWorksWithin_25 (lv_at hl 0 rfl) ?_
            refine lv_ifnullN (tgt := 42) hx hb dd_H_hasWorksWithin_27 (by decide) ?_
            refine lv_iinc (v := (3)) (lv' := [(5, .int (3 : Int32)), (6, .null), (4, .int (3 : Int32)), (3, .ref aw), (0, .ref h0), (1, .int p1), (2, .int p2)]) hx hb dd_H_hasWorksWithin_42 hl (k := 1) rfl (by decide) (by decide) rfl (fun ls hl => ?_)
            refine lv_goto (tgt := 12) hx hb dd_H_hasWorksWithin_45 (by decide) ?_
            refine lv_iload hx hb dd_H_hasWorksWithin_12 (lv_at hl 0 rfl) ?_
            refine lv_iload hx hb dd_H_hasWorksWithin_14 (lv_at hl 2 rfl) ?_
            refine lv_icmp_ge (tgt := 48) hx hb dd_H_hasWorksWithin_16 (by decide) (fun c20 => ?_) (fun c20 => absurd (by decide) c20)
            refine lv_iconst (v := 0) hx hb dd_H_hasWorksWithin_48 (by decide) ?_
            refine cx_iret (v := (0 : Int32)) hx hb hr (by decide) hlocks hw dd_H_hasWorksWithin_49 (by decide) (by decide) ?_
            have d0 : su_m1 wf wt p1 p2 (fw 0) = 0 := by rw [hq0]; exact c12
            have d1 : su_m1 wf wt p1 p2 (fw 1) = 0 := by rw [hq1]; exact c18
            exact ⟨by rw [su_m3, if_pos d0, if_pos d1, if_pos d2], rfl⟩
          · skip
            refine W.eq (g2 := F0 m 23 ls [.ref q2]) rfl ?_
            refine lv_astore (lv' := [(6, .ref q2), (5, .int (2 : Int32)), (4, .int (3 : Int32)), (3, .ref aw), (0, .ref h0), (1, .int p1), (2, .int p2)]) hx hb dd_H_hasWorksWithin_23 hl (by decide) rfl (fun ls hl => ?_)
            refine lv_aload hx hb dd_H_hasWorksWithin_25 (lv_at hl 0 rfl) ?_
            refine lv_ifnull hx hb dd_H_hasWorksWithin_27 ?_
            refine lv_aload hx hb dd_H_hasWorksWithin_30 (lv_at hl 0 rfl) ?_
            refine lv_iload_n hx hb dd_H_hasWorksWithin_32 rfl (lv_at hl 5 rfl) ?_
            refine lv_iload_n hx hb dd_H_hasWorksWithin_33 rfl (lv_at hl 6 rfl) ?_
            refine cx_after (cx_rV (n := 2) (As := [.int p1, .int p2]) (rest := []) ⟨hx, hb, hml, hown, hg⟩ (c_O_meet l z D ac sa P q2 (wf q2) (wt q2) p1 p2 (fo 2 q2 hq2)) (cx_gv gm_H_55 gi_O_meet gs_O_meet gn_O gc_O_meet) (by decide +kernel) ⟨by decide, by decide⟩ hK hw (fo 2 q2 hq2) rfl rfl hl.1 rfl (Nat.le_of_ble_eq_true rfl) dd_H_hasWorksWithin_34 ⟨by decide, by decide⟩) hw (fun v9 P9 H locs hp hw => ?_)
            obtain ⟨rfl, e9⟩ := hp
            rw [e9] at hw
            clear e9 P9
            refine W.eq (g2 := F0 m 37 ls [.int (if (wt q2) < p1 then 0 else if p2 < (wf q2) then 0 else 1)]) rfl ?_
            refine lv_if_eq (tgt := 42) hx hb dd_H_hasWorksWithin_37 (by decide) (fun c21 => ?_) (fun c21 => ?_)
            · skip
              refine lv_iinc (v := (3)) (lv' := [(5, .int (3 : Int32)), (6, .ref q2), (4, .int (3 : Int32)), (3, .ref aw), (0, .ref h0), (1, .int p1), (2, .int p2)]) hx hb dd_H_hasWorksWithin_42 hl (k := 1) rfl (by decide) (by decide) rfl (fun ls hl => ?_)
              refine lv_goto (tgt := 12) hx hb dd_H_hasWorksWithin_45 (by decide) ?_
              refine lv_iload hx hb dd_H_hasWorksWithin_12 (lv_at hl 0 rfl) ?_
              refine lv_iload hx hb dd_H_hasWorksWithin_14 (lv_at hl 2 rfl) ?_
              refine lv_icmp_ge (tgt := 48) hx hb dd_H_hasWorksWithin_16 (by decide) (fun c22 => ?_) (fun c22 => absurd (by decide) c22)
              refine lv_iconst (v := 0) hx hb dd_H_hasWorksWithin_48 (by decide) ?_
              refine cx_iret (v := (0 : Int32)) hx hb hr (by decide) hlocks hw dd_H_hasWorksWithin_49 (by decide) (by decide) ?_
              have d0 : su_m1 wf wt p1 p2 (fw 0) = 0 := by rw [hq0]; exact c12
              have d1 : su_m1 wf wt p1 p2 (fw 1) = 0 := by rw [hq1]; exact c18
              have d2 : su_m1 wf wt p1 p2 (fw 2) = 0 := by rw [hq2]; exact c21
              exact ⟨by rw [su_m3, if_pos d0, if_pos d1, if_pos d2], rfl⟩
            · skip
              refine lv_iconst (v := 1) hx hb dd_H_hasWorksWithin_40 (by decide) ?_
              refine cx_iret (v := (1 : Int32)) hx hb hr (by decide) hlocks hw dd_H_hasWorksWithin_41 (by decide) (by decide) ?_
              have d0 : su_m1 wf wt p1 p2 (fw 0) = 0 := by rw [hq0]; exact c12
              have d1 : su_m1 wf wt p1 p2 (fw 1) = 0 := by rw [hq1]; exact c18
              have d2 : ¬ su_m1 wf wt p1 p2 (fw 2) = 0 := by rw [hq2]; exact c21
              exact ⟨by rw [su_m3, if_pos d0, if_pos d1, if_neg d2], rfl⟩
        · skip
          refine lv_iconst (v := 1) hx hb dd_H_hasWorksWithin_40 (by decide) ?_
          refine cx_iret (v := (1 : Int32)) hx hb hr (by decide) hlocks hw dd_H_hasWorksWithin_41 (by decide) (by decide) ?_
          have d0 : su_m1 wf wt p1 p2 (fw 0) = 0 := by rw [hq0]; exact c12
          have d1 : ¬ su_m1 wf wt p1 p2 (fw 1) = 0 := by rw [hq1]; exact c18
          exact ⟨by rw [su_m3, if_pos d0, if_neg d1], rfl⟩
    · skip
      refine lv_iconst (v := 1) hx hb dd_H_hasWorksWithin_40 (by decide) ?_
      refine cx_iret (v := (1 : Int32)) hx hb hr (by decide) hlocks hw dd_H_hasWorksWithin_41 (by decide) (by decide) ?_
      have d0 : ¬ su_m1 wf wt p1 p2 (fw 0) = 0 := by rw [hq0]; exact c12
      exact ⟨by rw [su_m3, if_neg d0], rfl⟩

set_option maxHeartbeats 4000000 in
set_option maxRecDepth 100000 in
theorem c_H_isUsable (l : Launch) (z : Nat) (D : va_G) (ac : Nat → ClassId) (sa : Nat → Nat) (P : pm_T) (h0 aw : Nat) (vn vx vy vm vk vc vd vr vt : Int32) (ct : Option Nat) (wf wt : Nat → Int32) (fw : Nat → Option Nat) (p1 p2 : Int32) (fo : ∀ k q, fw k = some q → P q = some (.inr (3, [.int (wf q), .int (wt q)]))) (f0 : P h0 = some (.inr (1, [.int vn, .int vx, .int vy, .int vm, .int vk, .ref aw, .int vc, .int vd, .int vr, .int vt, va_rf ct]))) (f1 : P aw = some (.inl (ac 5, 3, .inr (.inr (.inr (.inr fw)))))) : cx_M l yy_H_isUsable bb_H_isUsable 3 (some .boolean) ({ frames := 2, cells := 0, slots := 0, locals := 48 } : Room) z D ac sa P [.ref h0, .int p1, .int p2] (fun v P' => v = some (.int (su_us vd vk vr p2 p1 wf wt fw)) ∧ P' = P) := by
  refine cx_ofM (by decide) (Nat.le_of_ble_eq_true rfl) (fun p e s m below meth c ls hx hb hr hml hg hown hlocks hin hK hw hl => ?_)
  have hl : lv_has ls 3 [(0, .ref h0), (1, .int p1), (2, .int p2)] := hl
  have hown : s.vm.findClass cn_H = some m.cls := hown
  refine lv_aload_n hx hb dd_H_isUsable_0 rfl (lv_at hl 0 rfl) ?_
  refine pm_get (ci := 1) (C := cn_H) (T := cf_H) (N := 11) (v := .int vd) hx hb hg gu_H hown hK.2.1 hw f0 rfl 7 (by decide) (hg _ gf_H_21) (fun _ h9 => h9) rfl dd_H_isUsable_1 ?_
  refine lv_iconst (v := 2) hx hb dd_H_isUsable_4 (by decide) ?_
  refine lv_icmp_eq (tgt := 41) hx hb dd_H_isUsable_5 (by decide) (fun c1 => ?_) (fun c1 => ?_)
  · skip
    refine lv_iconst (v := 0) hx hb dd_H_isUsable_41 (by decide) ?_
    refine cx_iret (v := (0 : Int32)) hx hb hr (by decide) hlocks hw dd_H_isUsable_42 (by decide) (by decide) ?_
    refine ⟨congrArg (fun x => some (Value.int x)) (show (0 : Int32) = su_us vd vk vr p2 p1 wf wt fw from ?_), rfl⟩
    rw [su_us, if_pos c1]
  · skip
    refine lv_aload_n hx hb dd_H_isUsable_8 rfl (lv_at hl 0 rfl) ?_
    refine pm_get (ci := 1) (C := cn_H) (T := cf_H) (N := 11) (v := .int vk) hx hb hg gu_H hown hK.2.1 hw f0 rfl 4 (by decide) (hg _ gf_H_46) (fun _ h9 => h9) rfl dd_H_isUsable_9 ?_
    refine lv_iconst (v := 1) hx hb dd_H_isUsable_12 (by decide) ?_
    refine lv_icmp_ne (tgt := 20) hx hb dd_H_isUsable_13 (by decide) (fun c2 => ?_) (fun c2 => ?_)
    · skip
      refine lv_aload_n hx hb dd_H_isUsable_20 rfl (lv_at hl 0 rfl) ?_
      refine lv_iload_n hx hb dd_H_isUsable_21 rfl (lv_at hl 1 rfl) ?_
      refine cx_after (cx_rV (n := 1) (As := [.int p1]) (rest := []) ⟨hx, hb, hml, hown, hg⟩ (c_H_isDry l z D ac sa P h0 aw vn vx vy vm vk vc vd vr vt ct p1 f0) (cx_gv gm_H_62 gi_H_isDry gs_H_isDry gn_H gc_H_isDry) (by decide +kernel) ⟨by decide, by decide⟩ hK hw f0 rfl rfl hl.1 rfl (Nat.le_of_ble_eq_true rfl) dd_H_isUsable_22 ⟨by decide, by decide⟩) hw (fun v9 P9 H locs hp hw => ?_)
      obtain ⟨rfl, e9⟩ := hp
      rw [e9] at hw
      clear e9 P9
      refine W.eq (g2 := F0 m 25 ls [.int (su_dry vr p1)]) rfl ?_
      refine lv_if_ne (tgt := 41) hx hb dd_H_isUsable_25 (by decide) (fun c3 => ?_) (fun c3 => ?_)
      · skip
        refine lv_iconst (v := 0) hx hb dd_H_isUsable_41 (by decide) ?_
        refine cx_iret (v := (0 : Int32)) hx hb hr (by decide) hlocks hw dd_H_isUsable_42 (by decide) (by decide) ?_
        refine ⟨congrArg (fun x => some (Value.int x)) (show (0 : Int32) = su_us vd vk vr p2 p1 wf wt fw from ?_), rfl⟩
        have k1 : ¬ (vk = 1 ∧ p2 = 0) := fun h => c2 h.1
        rw [su_us, if_neg c1, if_neg k1, if_neg c3]
      · skip
        refine lv_aload_n hx hb dd_H_isUsable_28 rfl (lv_at hl 0 rfl) ?_
        refine lv_iload_n hx hb dd_H_isUsable_29 rfl (lv_at hl 1 rfl) ?_
        refine lv_iload_n hx hb dd_H_isUsable_30 rfl (lv_at hl 1 rfl) ?_
        refine cx_after (cx_rV (n := 2) (As := [.int p1, .int p1]) (rest := []) ⟨hx, hb, hml, hown, hg⟩ (c_H_hasWorksWithin l z D ac sa P h0 aw vn vx vy vm vk vc vd vr vt ct  wf wt fw p1 p1 fo f0 f1) (cx_gv gm_H_66 gi_H_hasWorksWithin gs_H_hasWorksWithin gn_H gc_H_hasWorksWithin) (by decide +kernel) ⟨by decide, by decide⟩ hK hw f0 rfl rfl hl.1 rfl (Nat.le_of_ble_eq_true rfl) dd_H_isUsable_31 ⟨by decide, by decide⟩) hw (fun v9 P9 H locs hp hw => ?_)
        obtain ⟨rfl, e9⟩ := hp
        rw [e9] at hw
        clear e9 P9
        refine W.eq (g2 := F0 m 34 ls [.int (su_m3 wf wt p1 p1 fw)]) rfl ?_
        refine lv_if_ne (tgt := 41) hx hb dd_H_isUsable_34 (by decide) (fun c4 => ?_) (fun c4 => ?_)
        · skip
          refine lv_iconst (v := 0) hx hb dd_H_isUsable_41 (by decide) ?_
          refine cx_iret (v := (0 : Int32)) hx hb hr (by decide) hlocks hw dd_H_isUsable_42 (by decide) (by decide) ?_
          refine ⟨congrArg (fun x => some (Value.int x)) (show (0 : Int32) = su_us vd vk vr p2 p1 wf wt fw from ?_), rfl⟩
          have k1 : ¬ (vk = 1 ∧ p2 = 0) := fun h => c2 h.1
          rw [su_us, if_neg c1, if_neg k1, if_pos c3, if_neg c4]
        · skip
          refine lv_iconst (v := 1) hx hb dd_H_isUsable_37 (by decide) ?_
          refine lv_goto (tgt := 42) hx hb dd_H_isUsable_38 (by decide) ?_
          refine cx_iret (v := (1 : Int32)) hx hb hr (by decide) hlocks hw dd_H_isUsable_42 (by decide) (by decide) ?_
          refine ⟨congrArg (fun x => some (Value.int x)) (show (1 : Int32) = su_us vd vk vr p2 p1 wf wt fw from ?_), rfl⟩
          have k1 : ¬ (vk = 1 ∧ p2 = 0) := fun h => c2 h.1
          rw [su_us, if_neg c1, if_neg k1, if_pos c3, if_pos c4]
    · skip
      refine lv_iload_n hx hb dd_H_isUsable_16 rfl (lv_at hl 2 rfl) ?_
      refine lv_if_eq (tgt := 41) hx hb dd_H_isUsable_17 (by decide) (fun c5 => ?_) (fun c5 => ?_)
      · skip
        refine lv_iconst (v := 0) hx hb dd_H_isUsable_41 (by decide) ?_
        refine cx_iret (v := (0 : Int32)) hx hb hr (by decide) hlocks hw dd_H_isUsable_42 (by decide) (by decide) ?_
        refine ⟨congrArg (fun x => some (Value.int x)) (show (0 : Int32) = su_us vd vk vr p2 p1 wf wt fw from ?_), rfl⟩
        have k1 : vk = 1 ∧ p2 = 0 := ⟨c2, c5⟩
        rw [su_us, if_neg c1, if_pos k1]
      · skip
        refine lv_aload_n hx hb dd_H_isUsable_20 rfl (lv_at hl 0 rfl) ?_
        refine lv_iload_n hx hb dd_H_isUsable_21 rfl (lv_at hl 1 rfl) ?_
        refine cx_after (cx_rV (n := 1) (As := [.int p1]) (rest := []) ⟨hx, hb, hml, hown, hg⟩ (c_H_isDry l z D ac sa P h0 aw vn vx vy vm vk vc vd vr vt ct p1 f0) (cx_gv gm_H_62 gi_H_isDry gs_H_isDry gn_H gc_H_isDry) (by decide +kernel) ⟨by decide, by decide⟩ hK hw f0 rfl rfl hl.1 rfl (Nat.le_of_ble_eq_true rfl) dd_H_isUsable_22 ⟨by decide, by decide⟩) hw (fun v9 P9 H locs hp hw => ?_)
        obtain ⟨rfl, e9⟩ := hp
        rw [e9] at hw
        clear e9 P9
        refine W.eq (g2 := F0 m 25 ls [.int (su_dry vr p1)]) rfl ?_
        refine lv_if_ne (tgt := 41) hx hb dd_H_isUsable_25 (by decide) (fun c6 => ?_) (fun c6 => ?_)
        · skip
          refine lv_iconst (v := 0) hx hb dd_H_isUsable_41 (by decide) ?_
          refine cx_iret (v := (0 : Int32)) hx hb hr (by decide) hlocks hw dd_H_isUsable_42 (by decide) (by decide) ?_
          refine ⟨congrArg (fun x => some (Value.int x)) (show (0 : Int32) = su_us vd vk vr p2 p1 wf wt fw from ?_), rfl⟩
          have k1 : ¬ (vk = 1 ∧ p2 = 0) := fun h => c5 h.2
          rw [su_us, if_neg c1, if_neg k1, if_neg c6]
        · skip
          refine lv_aload_n hx hb dd_H_isUsable_28 rfl (lv_at hl 0 rfl) ?_
          refine lv_iload_n hx hb dd_H_isUsable_29 rfl (lv_at hl 1 rfl) ?_
          refine lv_iload_n hx hb dd_H_isUsable_30 rfl (lv_at hl 1 rfl) ?_
          refine cx_after (cx_rV (n := 2) (As := [.int p1, .int p1]) (rest := []) ⟨hx, hb, hml, hown, hg⟩ (c_H_hasWorksWithin l z D ac sa P h0 aw vn vx vy vm vk vc vd vr vt ct  wf wt fw p1 p1 fo f0 f1) (cx_gv gm_H_66 gi_H_hasWorksWithin gs_H_hasWorksWithin gn_H gc_H_hasWorksWithin) (by decide +kernel) ⟨by decide, by decide⟩ hK hw f0 rfl rfl hl.1 rfl (Nat.le_of_ble_eq_true rfl) dd_H_isUsable_31 ⟨by decide, by decide⟩) hw (fun v9 P9 H locs hp hw => ?_)
          obtain ⟨rfl, e9⟩ := hp
          rw [e9] at hw
          clear e9 P9
          refine W.eq (g2 := F0 m 34 ls [.int (su_m3 wf wt p1 p1 fw)]) rfl ?_
          refine lv_if_ne (tgt := 41) hx hb dd_H_isUsable_34 (by decide) (fun c7 => ?_) (fun c7 => ?_)
          · skip
            refine lv_iconst (v := 0) hx hb dd_H_isUsable_41 (by decide) ?_
            refine cx_iret (v := (0 : Int32)) hx hb hr (by decide) hlocks hw dd_H_isUsable_42 (by decide) (by decide) ?_
            refine ⟨congrArg (fun x => some (Value.int x)) (show (0 : Int32) = su_us vd vk vr p2 p1 wf wt fw from ?_), rfl⟩
            have k1 : ¬ (vk = 1 ∧ p2 = 0) := fun h => c5 h.2
            rw [su_us, if_neg c1, if_neg k1, if_pos c6, if_neg c7]
          · skip
            refine lv_iconst (v := 1) hx hb dd_H_isUsable_37 (by decide) ?_
            refine lv_goto (tgt := 42) hx hb dd_H_isUsable_38 (by decide) ?_
            refine cx_iret (v := (1 : Int32)) hx hb hr (by decide) hlocks hw dd_H_isUsable_42 (by decide) (by decide) ?_
            refine ⟨congrArg (fun x => some (Value.int x)) (show (1 : Int32) = su_us vd vk vr p2 p1 wf wt fw from ?_), rfl⟩
            have k1 : ¬ (vk = 1 ∧ p2 = 0) := fun h => c5 h.2
            rw [su_us, if_neg c1, if_neg k1, if_pos c6, if_pos c7]
