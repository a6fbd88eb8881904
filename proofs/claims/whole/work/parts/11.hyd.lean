def su_ct (ct : Option Nat) (td : Nat → Int32) (t0 : Nat) (d : Int32) : Option Nat := match ct with
  | none => some t0
  | some q => if d < td q then some q else some t0
def su_cn (tn : Nat → Int32) (c : Option Nat) : Int32 := match c with
  | none => -1
  | some q => tn q
def su_ow (td : Nat → Int32) (c : Option Nat) : Int32 := match c with
  | none => 0
  | some q => td q + 1
def su_od (td : Nat → Int32) (c : Option Nat) (p1 p2 : Int32) : Int32 := match c with
  | none => 1
  | some q => if p1 - td q ≤ p2 then 0 else 1
def su_gv (tr tf tl : Nat → Int32) (c : Option Nat) (p : Int32) : Int32 := match c with
  | none => 0
  | some q => su_wh (tr q) (tf q) (tl q) p
def su_hose (x y a b : Int32) : Int32 := su_ab (x - a) + su_ab (y - b)
def su_mon (d : Int32) : Int32 := (d - d / 360 * 360) / 30
def su_bit (w k : Int32) : Int32 := (w.toUInt32 >>> (k.toUInt32 &&& Int32.toUInt32 31)).toInt32 &&& 1
def su_dry (w d : Int32) : Int32 := if su_bit w (su_mon d) = 0 then 0 else 1
def su_set (w k on : Int32) : Int32 := if on = 0 then w &&& (((1 : Int32) <<< (k &&& 31)) ^^^ (-1)) else w ||| ((1 : Int32) <<< (k &&& 31))

set_option maxHeartbeats 4000000 in
set_option maxRecDepth 100000 in
theorem c_C_hoseLength (l : Launch) (z : Nat) (D : va_G) (ac : Nat → ClassId) (sa : Nat → Nat) (P : pm_T) (p0 p1 p2 p3 : Int32)  : cx_M l yy_C_hoseLength bb_C_hoseLength 4 (some .int) ({ frames := 1, cells := 0, slots := 0, locals := 40 } : Room) z D ac sa P [.int p0, .int p1, .int p2, .int p3] (fun v P' => v = some (.int (su_hose p0 p1 p2 p3)) ∧ P' = P) := by
  refine cx_ofM (by decide) (Nat.le_of_ble_eq_true rfl) (fun p e s m below meth c ls hx hb hr hml hg hown hlocks hin hK hw hl => ?_)
  have hl : lv_has ls 4 [(0, .int p0), (1, .int p1), (2, .int p2), (3, .int p3)] := hl
  have hown : s.vm.findClass cn_C = some m.cls := hown
  refine lv_iload_n hx hb dd_C_hoseLength_0 rfl (lv_at hl 0 rfl) ?_
  refine lv_iload_n hx hb dd_C_hoseLength_1 rfl (lv_at hl 2 rfl) ?_
  refine lv_isub hx hb dd_C_hoseLength_2 ?_
  refine va_mabs hx hb (by rw [hml]; exact hl.1.symm) hown (hg _ gm_C_294) (hg _ gt_N_abs) (hg _ gn_Math) (hg _ gc_N_abs) (Nat.le_of_ble_eq_true rfl) (Nat.le_of_ble_eq_true rfl) (Nat.le_of_ble_eq_true rfl) (Nat.le_of_ble_eq_true rfl) dd_C_hoseLength_3 ?_
  refine lv_iload_n hx hb dd_C_hoseLength_6 rfl (lv_at hl 1 rfl) ?_
  refine lv_iload_n hx hb dd_C_hoseLength_7 rfl (lv_at hl 3 rfl) ?_
  refine lv_isub hx hb dd_C_hoseLength_8 ?_
  refine va_mabs hx hb (by rw [hml]; exact hl.1.symm) hown (hg _ gm_C_294) (hg _ gt_N_abs) (hg _ gn_Math) (hg _ gc_N_abs) (Nat.le_of_ble_eq_true rfl) (Nat.le_of_ble_eq_true rfl) (Nat.le_of_ble_eq_true rfl) (Nat.le_of_ble_eq_true rfl) dd_C_hoseLength_9 ?_
  refine lv_iadd hx hb dd_C_hoseLength_12 ?_
  refine cx_iret (v := ((if 0 ≤ (p0 - p2) then (p0 - p2) else 0 - (p0 - p2)) + (if 0 ≤ (p1 - p3) then (p1 - p3) else 0 - (p1 - p3)))) hx hb hr rfl hlocks hw dd_C_hoseLength_13 (by decide) (by decide) ?_
  exact ⟨by simp only [su_hose, su_ab], rfl⟩

set_option maxHeartbeats 4000000 in
set_option maxRecDepth 100000 in
theorem c_H_hoseFrom (l : Launch) (z : Nat) (D : va_G) (ac : Nat → ClassId) (sa : Nat → Nat) (P : pm_T) (h0 aw : Nat) (vn vx vy vm vk vc vd vr vt : Int32) (ct : Option Nat) (p1 p2 : Int32) (f0 : P h0 = some (.inr (1, [.int vn, .int vx, .int vy, .int vm, .int vk, .ref aw, .int vc, .int vd, .int vr, .int vt, va_rf ct]))) : cx_M l yy_H_hoseFrom bb_H_hoseFrom 3 (some .int) ({ frames := 2, cells := 0, slots := 0, locals := 63 } : Room) z D ac sa P [.ref h0, .int p1, .int p2] (fun v P' => v = some (.int (su_hose vx vy p1 p2)) ∧ P' = P) := by
  refine cx_ofM (by decide) (Nat.le_of_ble_eq_true rfl) (fun p e s m below meth c ls hx hb hr hml hg hown hlocks hin hK hw hl => ?_)
  have hl : lv_has ls 3 [(0, .ref h0), (1, .int p1), (2, .int p2)] := hl
  have hown : s.vm.findClass cn_H = some m.cls := hown
  refine lv_aload_n hx hb dd_H_hoseFrom_0 rfl (lv_at hl 0 rfl) ?_
  refine pm_get (ci := 1) (C := cn_H) (T := cf_H) (N := 11) (v := .int vx) hx hb hg gu_H hown hK.2.1 hw f0 rfl 1 (by decide) (hg _ gf_H_37) (fun _ h9 => h9) rfl dd_H_hoseFrom_1 ?_
  refine lv_aload_n hx hb dd_H_hoseFrom_4 rfl (lv_at hl 0 rfl) ?_
  refine pm_get (ci := 1) (C := cn_H) (T := cf_H) (N := 11) (v := .int vy) hx hb hg gu_H hown hK.2.1 hw f0 rfl 2 (by decide) (hg _ gf_H_40) (fun _ h9 => h9) rfl dd_H_hoseFrom_5 ?_
  refine lv_iload_n hx hb dd_H_hoseFrom_8 rfl (lv_at hl 1 rfl) ?_
  refine lv_iload_n hx hb dd_H_hoseFrom_9 rfl (lv_at hl 2 rfl) ?_
  refine cx_after (cx_rSN (host := "HydrantRows") (n := 4) (As := [.int vx, .int vy, .int p1, .int p2]) (rest := []) ⟨hx, hb, hml, hown, hg⟩ (c_C_hoseLength l z D ac sa P vx vy p1 p2) gc_C_hoseLength (by decide +kernel) gt_C_hoseLength gn_C (by decide +kernel) ⟨by decide, by decide⟩ hK hw rfl hl.1 rfl (Nat.le_of_ble_eq_true rfl) dd_H_hoseFrom_10 ⟨by decide, by decide⟩) hw (fun v9 P9 H locs hp hw => ?_)
  obtain ⟨rfl, e9⟩ := hp
  rw [e9] at hw
  clear e9 P9
  refine W.eq (g2 := F0 m 13 ls [.int (su_hose vx vy p1 p2)]) rfl ?_
  refine cx_iret (v := (su_hose vx vy p1 p2)) hx hb hr rfl hlocks hw dd_H_hoseFrom_13 (by decide) (by decide) ?_
  exact ⟨rfl, rfl⟩

set_option maxHeartbeats 4000000 in
set_option maxRecDepth 100000 in
theorem c_H_countingNumber (l : Launch) (z : Nat) (D : va_G) (ac : Nat → ClassId) (sa : Nat → Nat) (P : pm_T) (h0 aw : Nat) (vn vx vy vm vk vc vd vr vt : Int32) (ct : Option Nat) (tn th td tr tf tl : Nat → Int32) (ft : ∀ q, ct = some q → P q = some (.inr (2, [.int (tn q), .int (th q), .int (td q), .int (tr q), .int (tf q), .int (tl q)]))) (f0 : P h0 = some (.inr (1, [.int vn, .int vx, .int vy, .int vm, .int vk, .ref aw, .int vc, .int vd, .int vr, .int vt, va_rf ct]))) : cx_M l yy_H_countingNumber bb_H_countingNumber 1 (some .int) ({ frames := 0, cells := 0, slots := 0, locals := 0 } : Room) z D ac sa P [.ref h0] (fun v P' => v = some (.int (su_cn tn ct)) ∧ P' = P) := by
  refine cx_ofM (by decide) (Nat.le_of_ble_eq_true rfl) (fun p e s m below meth c ls hx hb hr hml hg hown hlocks hin hK hw hl => ?_)
  have hl : lv_has ls 1 [(0, .ref h0)] := hl
  have hown : s.vm.findClass cn_H = some m.cls := hown
  refine lv_aload_n hx hb dd_H_countingNumber_0 rfl (lv_at hl 0 rfl) ?_
  refine pm_get (ci := 1) (C := cn_H) (T := cf_H) (N := 11) (v := va_rf ct) hx hb hg gu_H hown hK.2.1 hw f0 rfl 10 (by decide) (hg _ gf_H_30) (fun _ h9 => h9) rfl dd_H_countingNumber_1 ?_
  rcases ct with _ | q1
  · skip
    refine W.eq (g2 := F0 m 4 ls [.null]) rfl ?_
    refine lv_ifnonnullN hx hb dd_H_countingNumber_4 ?_
    refine lv_iconst (v := (-1)) hx hb dd_H_countingNumber_7 (by decide) ?_
    refine lv_goto (tgt := 18) hx hb dd_H_countingNumber_8 (by decide) ?_
    refine cx_iret (v := (-1 : Int32)) hx hb hr rfl hlocks hw dd_H_countingNumber_18 (by decide) (by decide) ?_
    exact ⟨rfl, rfl⟩
  · skip
    refine W.eq (g2 := F0 m 4 ls [.ref q1]) rfl ?_
    have fq1 : P q1 = some (.inr (2, [.int (tn q1), .int (th q1), .int (td q1), .int (tr q1), .int (tf q1), .int (tl q1)])) := ft q1 rfl
    refine lv_ifnonnull (tgt := 11) hx hb dd_H_countingNumber_4 (by decide) ?_
    refine lv_aload_n hx hb dd_H_countingNumber_11 rfl (lv_at hl 0 rfl) ?_
    refine pm_get (ci := 1) (C := cn_H) (T := cf_H) (N := 11) (v := .ref q1) hx hb hg gu_H hown hK.2.1 hw f0 rfl 10 (by decide) (hg _ gf_H_30) (fun _ h9 => h9) rfl dd_H_countingNumber_12 ?_
    refine pm_get (ci := 2) (C := cn_T) (T := cf_T) (N := 6) (v := .int (tn q1)) hx hb hg gu_T hown hK.2.1 hw fq1 rfl 0 (by decide) (hg _ gf_H_54) (fun _ h9 => h9) rfl dd_H_countingNumber_15 ?_
    refine cx_iret (v := (tn q1)) hx hb hr rfl hlocks hw dd_H_countingNumber_18 (by decide) (by decide) ?_
    exact ⟨rfl, rfl⟩

set_option maxHeartbeats 4000000 in
set_option maxRecDepth 100000 in
theorem c_H_overdueWeight (l : Launch) (z : Nat) (D : va_G) (ac : Nat → ClassId) (sa : Nat → Nat) (P : pm_T) (h0 aw : Nat) (vn vx vy vm vk vc vd vr vt : Int32) (ct : Option Nat) (tn th td tr tf tl : Nat → Int32) (ft : ∀ q, ct = some q → P q = some (.inr (2, [.int (tn q), .int (th q), .int (td q), .int (tr q), .int (tf q), .int (tl q)]))) (f0 : P h0 = some (.inr (1, [.int vn, .int vx, .int vy, .int vm, .int vk, .ref aw, .int vc, .int vd, .int vr, .int vt, va_rf ct]))) : cx_M l yy_H_overdueWeight bb_H_overdueWeight 1 (some .int) ({ frames := 0, cells := 0, slots := 0, locals := 0 } : Room) z D ac sa P [.ref h0] (fun v P' => v = some (.int (su_ow td ct)) ∧ P' = P) := by
  refine cx_ofM (by decide) (Nat.le_of_ble_eq_true rfl) (fun p e s m below meth c ls hx hb hr hml hg hown hlocks hin hK hw hl => ?_)
  have hl : lv_has ls 1 [(0, .ref h0)] := hl
  have hown : s.vm.findClass cn_H = some m.cls := hown
  refine lv_aload_n hx hb dd_H_overdueWeight_0 rfl (lv_at hl 0 rfl) ?_
  refine pm_get (ci := 1) (C := cn_H) (T := cf_H) (N := 11) (v := va_rf ct) hx hb hg gu_H hown hK.2.1 hw f0 rfl 10 (by decide) (hg _ gf_H_30) (fun _ h9 => h9) rfl dd_H_overdueWeight_1 ?_
  rcases ct with _ | q1
  · skip
    refine W.eq (g2 := F0 m 4 ls [.null]) rfl ?_
    refine lv_ifnonnullN hx hb dd_H_overdueWeight_4 ?_
    refine lv_iconst (v := 0) hx hb dd_H_overdueWeight_7 (by decide) ?_
    refine lv_goto (tgt := 20) hx hb dd_H_overdueWeight_8 (by decide) ?_
    refine cx_iret (v := (0 : Int32)) hx hb hr rfl hlocks hw dd_H_overdueWeight_20 (by decide) (by decide) ?_
    exact ⟨rfl, rfl⟩
  · skip
    refine W.eq (g2 := F0 m 4 ls [.ref q1]) rfl ?_
    have fq1 : P q1 = some (.inr (2, [.int (tn q1), .int (th q1), .int (td q1), .int (tr q1), .int (tf q1), .int (tl q1)])) := ft q1 rfl
    refine lv_ifnonnull (tgt := 11) hx hb dd_H_overdueWeight_4 (by decide) ?_
    refine lv_aload_n hx hb dd_H_overdueWeight_11 rfl (lv_at hl 0 rfl) ?_
    refine pm_get (ci := 1) (C := cn_H) (T := cf_H) (N := 11) (v := .ref q1) hx hb hg gu_H hown hK.2.1 hw f0 rfl 10 (by decide) (hg _ gf_H_30) (fun _ h9 => h9) rfl dd_H_overdueWeight_12 ?_
    refine pm_get (ci := 2) (C := cn_T) (T := cf_T) (N := 6) (v := .int (td q1)) hx hb hg gu_T hown hK.2.1 hw fq1 rfl 2 (by decide) (hg _ gf_H_49) (fun _ h9 => h9) rfl dd_H_overdueWeight_15 ?_
    refine lv_iconst (v := 1) hx hb dd_H_overdueWeight_18 (by decide) ?_
    refine lv_iadd hx hb dd_H_overdueWeight_19 ?_
    refine cx_iret (v := ((td q1) + (1 : Int32))) hx hb hr rfl hlocks hw dd_H_overdueWeight_20 (by decide) (by decide) ?_
    exact ⟨rfl, rfl⟩

set_option maxHeartbeats 4000000 in
set_option maxRecDepth 100000 in
theorem c_H_isOverdue (l : Launch) (z : Nat) (D : va_G) (ac : Nat → ClassId) (sa : Nat → Nat) (P : pm_T) (h0 aw : Nat) (vn vx vy vm vk vc vd vr vt : Int32) (ct : Option Nat) (tn th td tr tf tl : Nat → Int32) (p1 p2 : Int32) (ft : ∀ q, ct = some q → P q = some (.inr (2, [.int (tn q), .int (th q), .int (td q), .int (tr q), .int (tf q), .int (tl q)]))) (f0 : P h0 = some (.inr (1, [.int vn, .int vx, .int vy, .int vm, .int vk, .ref aw, .int vc, .int vd, .int vr, .int vt, va_rf ct]))) : cx_M l yy_H_isOverdue bb_H_isOverdue 3 (some .boolean) ({ frames := 0, cells := 0, slots := 0, locals := 0 } : Room) z D ac sa P [.ref h0, .int p1, .int p2] (fun v P' => v = some (.int (su_od td ct p1 p2)) ∧ P' = P) := by
  refine cx_ofM (by decide) (Nat.le_of_ble_eq_true rfl) (fun p e s m below meth c ls hx hb hr hml hg hown hlocks hin hK hw hl => ?_)
  have hl : lv_has ls 3 [(0, .ref h0), (1, .int p1), (2, .int p2)] := hl
  have hown : s.vm.findClass cn_H = some m.cls := hown
  refine lv_aload_n hx hb dd_H_isOverdue_0 rfl (lv_at hl 0 rfl) ?_
  refine pm_get (ci := 1) (C := cn_H) (T := cf_H) (N := 11) (v := va_rf ct) hx hb hg gu_H hown hK.2.1 hw f0 rfl 10 (by decide) (hg _ gf_H_30) (fun _ h9 => h9) rfl dd_H_isOverdue_1 ?_
  rcases ct with _ | q1
  · skip
    refine W.eq (g2 := F0 m 4 ls [.null]) rfl ?_
    refine lv_ifnullN (tgt := 20) hx hb dd_H_isOverdue_4 (by decide) ?_
    refine lv_iconst (v := 1) hx hb dd_H_isOverdue_20 (by decide) ?_
    refine lv_goto (tgt := 25) hx hb dd_H_isOverdue_21 (by decide) ?_
    refine cx_iret (v := (1 : Int32)) hx hb hr (by decide) hlocks hw dd_H_isOverdue_25 (by decide) (by decide) ?_
    exact ⟨rfl, rfl⟩
  · skip
    refine W.eq (g2 := F0 m 4 ls [.ref q1]) rfl ?_
    have fq1 : P q1 = some (.inr (2, [.int (tn q1), .int (th q1), .int (td q1), .int (tr q1), .int (tf q1), .int (tl q1)])) := ft q1 rfl
    refine lv_ifnull hx hb dd_H_isOverdue_4 ?_
    refine lv_iload_n hx hb dd_H_isOverdue_7 rfl (lv_at hl 1 rfl) ?_
    refine lv_aload_n hx hb dd_H_isOverdue_8 rfl (lv_at hl 0 rfl) ?_
    refine pm_get (ci := 1) (C := cn_H) (T := cf_H) (N := 11) (v := .ref q1) hx hb hg gu_H hown hK.2.1 hw f0 rfl 10 (by decide) (hg _ gf_H_30) (fun _ h9 => h9) rfl dd_H_isOverdue_9 ?_
    refine pm_get (ci := 2) (C := cn_T) (T := cf_T) (N := 6) (v := .int (td q1)) hx hb hg gu_T hown hK.2.1 hw fq1 rfl 2 (by decide) (hg _ gf_H_49) (fun _ h9 => h9) rfl dd_H_isOverdue_12 ?_
    refine lv_isub hx hb dd_H_isOverdue_15 ?_
    refine lv_iload_n hx hb dd_H_isOverdue_16 rfl (lv_at hl 2 rfl) ?_
    refine lv_icmp_le (tgt := 24) hx hb dd_H_isOverdue_17 (by decide) (fun c1 => ?_) (fun c1 => ?_)
    · skip
      refine lv_iconst (v := 0) hx hb dd_H_isOverdue_24 (by decide) ?_
      refine cx_iret (v := (0 : Int32)) hx hb hr (by decide) hlocks hw dd_H_isOverdue_25 (by decide) (by decide) ?_
      exact ⟨by simp only [su_od, if_pos c1], rfl⟩
    · skip
      refine lv_iconst (v := 1) hx hb dd_H_isOverdue_20 (by decide) ?_
      refine lv_goto (tgt := 25) hx hb dd_H_isOverdue_21 (by decide) ?_
      refine cx_iret (v := (1 : Int32)) hx hb hr (by decide) hlocks hw dd_H_isOverdue_25 (by decide) (by decide) ?_
      exact ⟨by simp only [su_od, if_neg c1], rfl⟩

set_option maxHeartbeats 4000000 in
set_option maxRecDepth 100000 in
theorem c_H_givenAt (l : Launch) (z : Nat) (D : va_G) (ac : Nat → ClassId) (sa : Nat → Nat) (P : pm_T) (h0 aw : Nat) (vn vx vy vm vk vc vd vr vt : Int32) (ct : Option Nat) (tn th td tr tf tl : Nat → Int32) (p1 : Int32) (ft : ∀ q, ct = some q → P q = some (.inr (2, [.int (tn q), .int (th q), .int (td q), .int (tr q), .int (tf q), .int (tl q)]))) (f0 : P h0 = some (.inr (1, [.int vn, .int vx, .int vy, .int vm, .int vk, .ref aw, .int vc, .int vd, .int vr, .int vt, va_rf ct]))) : cx_M l yy_H_givenAt bb_H_givenAt 2 (some .int) ({ frames := 2, cells := 0, slots := 0, locals := 43 } : Room) z D ac sa P [.ref h0, .int p1] (fun v P' => v = some (.int (su_gv tr tf tl ct p1)) ∧ P' = P) := by
  refine cx_ofM (by decide) (Nat.le_of_ble_eq_true rfl) (fun p e s m below meth c ls hx hb hr hml hg hown hlocks hin hK hw hl => ?_)
  have hl : lv_has ls 2 [(0, .ref h0), (1, .int p1)] := hl
  have hown : s.vm.findClass cn_H = some m.cls := hown
  refine lv_aload_n hx hb dd_H_givenAt_0 rfl (lv_at hl 0 rfl) ?_
  refine pm_get (ci := 1) (C := cn_H) (T := cf_H) (N := 11) (v := va_rf ct) hx hb hg gu_H hown hK.2.1 hw f0 rfl 10 (by decide) (hg _ gf_H_30) (fun _ h9 => h9) rfl dd_H_givenAt_1 ?_
  rcases ct with _ | q1
  · skip
    refine W.eq (g2 := F0 m 4 ls [.null]) rfl ?_
    refine lv_ifnonnullN hx hb dd_H_givenAt_4 ?_
    refine lv_iconst (v := 0) hx hb dd_H_givenAt_7 (by decide) ?_
    refine lv_goto (tgt := 19) hx hb dd_H_givenAt_8 (by decide) ?_
    refine cx_iret (v := (0 : Int32)) hx hb hr rfl hlocks hw dd_H_givenAt_19 (by decide) (by decide) ?_
    exact ⟨rfl, rfl⟩
  · skip
    refine W.eq (g2 := F0 m 4 ls [.ref q1]) rfl ?_
    have fq1 : P q1 = some (.inr (2, [.int (tn q1), .int (th q1), .int (td q1), .int (tr q1), .int (tf q1), .int (tl q1)])) := ft q1 rfl
    refine lv_ifnonnull (tgt := 11) hx hb dd_H_givenAt_4 (by decide) ?_
    refine lv_aload_n hx hb dd_H_givenAt_11 rfl (lv_at hl 0 rfl) ?_
    refine pm_get (ci := 1) (C := cn_H) (T := cf_H) (N := 11) (v := .ref q1) hx hb hg gu_H hown hK.2.1 hw f0 rfl 10 (by decide) (hg _ gf_H_30) (fun _ h9 => h9) rfl dd_H_givenAt_12 ?_
    refine lv_iload_n hx hb dd_H_givenAt_15 rfl (lv_at hl 1 rfl) ?_
    refine cx_after (cx_rV (n := 1) (As := [.int p1]) (rest := []) ⟨hx, hb, hml, hown, hg⟩ (c_T_wholeAt l z D ac sa P q1 (tn q1) (th q1) (td q1) (tr q1) (tf q1) (tl q1) p1 fq1) (cx_gv gm_H_73 gi_T_wholeAt gs_T_wholeAt gn_T gc_T_wholeAt) (by decide +kernel) ⟨by decide, by decide⟩ hK hw fq1 rfl rfl hl.1 rfl (Nat.le_of_ble_eq_true rfl) dd_H_givenAt_16 ⟨by decide, by decide⟩) hw (fun v9 P9 H locs hp hw => ?_)
    obtain ⟨rfl, e9⟩ := hp
    rw [e9] at hw
    clear e9 P9
    refine W.eq (g2 := F0 m 19 ls [.int (su_wh (tr q1) (tf q1) (tl q1) p1)]) rfl ?_
    refine cx_iret (v := (su_wh (tr q1) (tf q1) (tl q1) p1)) hx hb hr rfl hlocks hw dd_H_givenAt_19 (by decide) (by decide) ?_
    exact ⟨rfl, rfl⟩

set_option maxHeartbeats 4000000 in
set_option maxRecDepth 100000 in
theorem c_H_isDry (l : Launch) (z : Nat) (D : va_G) (ac : Nat → ClassId) (sa : Nat → Nat) (P : pm_T) (h0 aw : Nat) (vn vx vy vm vk vc vd vr vt : Int32) (ct : Option Nat) (p1 : Int32) (f0 : P h0 = some (.inr (1, [.int vn, .int vx, .int vy, .int vm, .int vk, .ref aw, .int vc, .int vd, .int vr, .int vt, va_rf ct]))) : cx_M l yy_H_isDry bb_H_isDry 3 (some .boolean) ({ frames := 0, cells := 0, slots := 0, locals := 0 } : Room) z D ac sa P [.ref h0, .int p1] (fun v P' => v = some (.int (su_dry vr p1)) ∧ P' = P) := by
  refine cx_ofM (by decide) (Nat.le_of_ble_eq_true rfl) (fun p e s m below meth c ls hx hb hr hml hg hown hlocks hin hK hw hl => ?_)
  have hl : lv_has ls 3 [(0, .ref h0), (1, .int p1)] := hl
  have hown : s.vm.findClass cn_H = some m.cls := hown
  refine lv_iload_n hx hb dd_H_isDry_0 rfl (lv_at hl 1 rfl) ?_
  refine lv_sipush (v := 360) hx hb dd_H_isDry_1 (by decide) ?_
  refine lv_irem hx hb dd_H_isDry_4 (by decide) ?_
  refine lv_bipush (v := 30) hx hb dd_H_isDry_5 (by decide) ?_
  refine lv_idiv hx hb dd_H_isDry_7 (by decide) ?_
  refine lv_topi (fun x1 ex1 => ?_)
  refine lv_istore_n (lv' := [(2, .int x1), (0, .ref h0), (1, .int p1)]) hx hb dd_H_isDry_8 rfl hl (by decide) rfl (fun ls hl => ?_)
  refine lv_aload_n hx hb dd_H_isDry_9 rfl (lv_at hl 1 rfl) ?_
  refine pm_get (ci := 1) (C := cn_H) (T := cf_H) (N := 11) (v := .int vr) hx hb hg gu_H hown hK.2.1 hw f0 rfl 8 (by decide) (hg _ gf_H_24) (fun _ h9 => h9) rfl dd_H_isDry_10 ?_
  refine lv_iload_n hx hb dd_H_isDry_13 rfl (lv_at hl 0 rfl) ?_
  refine lv_iushr hx hb dd_H_isDry_14 rfl ?_
  refine lv_iconst (v := 1) hx hb dd_H_isDry_15 (by decide) ?_
  refine lv_iand hx hb dd_H_isDry_16 ?_
  refine lv_if_eq (tgt := 24) hx hb dd_H_isDry_17 (by decide) (fun c2 => ?_) (fun c2 => ?_)
  · skip
    refine lv_iconst (v := 0) hx hb dd_H_isDry_24 (by decide) ?_
    refine cx_iret (v := (0 : Int32)) hx hb hr (by decide) hlocks hw dd_H_isDry_25 (by decide) (by decide) ?_
    exact ⟨congrArg (fun x => some (Value.int x)) (show (0 : Int32) = su_dry vr p1 from (by rw [ex1] at c2; exact (if_pos c2).symm)), rfl⟩
  · skip
    refine lv_iconst (v := 1) hx hb dd_H_isDry_20 (by decide) ?_
    refine lv_goto (tgt := 25) hx hb dd_H_isDry_21 (by decide) ?_
    refine cx_iret (v := (1 : Int32)) hx hb hr (by decide) hlocks hw dd_H_isDry_25 (by decide) (by decide) ?_
    exact ⟨congrArg (fun x => some (Value.int x)) (show (1 : Int32) = su_dry vr p1 from (by rw [ex1] at c2; exact (if_neg c2).symm)), rfl⟩

set_option maxHeartbeats 4000000 in
set_option maxRecDepth 100000 in
theorem c_H_setDry (l : Launch) (z : Nat) (D : va_G) (ac : Nat → ClassId) (sa : Nat → Nat) (P : pm_T) (h0 aw : Nat) (vn vx vy vm vk vc vd vr vt : Int32) (ct : Option Nat) (p1 p2 : Int32) (f0 : P h0 = some (.inr (1, [.int vn, .int vx, .int vy, .int vm, .int vk, .ref aw, .int vc, .int vd, .int vr, .int vt, va_rf ct]))) : cx_M l yy_H_setDry bb_H_setDry 4 none ({ frames := 0, cells := 0, slots := 0, locals := 0 } : Room) z D ac sa P [.ref h0, .int p1, .int p2] (fun v P' => v = none ∧ P' = pm_up P h0 (.inr (1, [.int vn, .int vx, .int vy, .int vm, .int vk, .ref aw, .int vc, .int vd, .int (su_set vr p1 p2), .int vt, va_rf ct]))) := by
  refine cx_ofM (by decide) (Nat.le_of_ble_eq_true rfl) (fun p e s m below meth c ls hx hb hr hml hg hown hlocks hin hK hw hl => ?_)
  have hl : lv_has ls 4 [(0, .ref h0), (1, .int p1), (2, .int p2)] := hl
  have hown : s.vm.findClass cn_H = some m.cls := hown
  refine lv_iconst (v := 1) hx hb dd_H_setDry_0 (by decide) ?_
  refine lv_iload_n hx hb dd_H_setDry_1 rfl (lv_at hl 1 rfl) ?_
  refine lv_ishl hx hb dd_H_setDry_2 ?_
  refine lv_topi (fun x1 ex1 => ?_)
  refine lv_istore_n (lv' := [(3, .int x1), (0, .ref h0), (1, .int p1), (2, .int p2)]) hx hb dd_H_setDry_3 rfl hl (by decide) rfl (fun ls hl => ?_)
  refine lv_aload_n hx hb dd_H_setDry_4 rfl (lv_at hl 1 rfl) ?_
  refine lv_iload_n hx hb dd_H_setDry_5 rfl (lv_at hl 3 rfl) ?_
  refine lv_if_eq (tgt := 18) hx hb dd_H_setDry_6 (by decide) (fun c2 => ?_) (fun c2 => ?_)
  · skip
    refine lv_aload_n hx hb dd_H_setDry_18 rfl (lv_at hl 1 rfl) ?_
    refine pm_get (ci := 1) (C := cn_H) (T := cf_H) (N := 11) (v := .int vr) hx hb hg gu_H hown hK.2.1 hw f0 rfl 8 (by decide) (hg _ gf_H_24) (fun _ h9 => h9) rfl dd_H_setDry_19 ?_
    refine lv_iload_n hx hb dd_H_setDry_22 rfl (lv_at hl 0 rfl) ?_
    refine lv_iconst (v := (-1)) hx hb dd_H_setDry_23 (by decide) ?_
    refine lv_ixor hx hb dd_H_setDry_24 ?_
    refine lv_iand hx hb dd_H_setDry_25 ?_
    refine lv_topi (fun x3 ex3 => ?_)
    refine pm_put (ci := 1) (v := .int x3) (ty := .int) (C := cn_H) (T := cf_H) (N := 11) hx hb hg gu_H ct_H co_H cm_H hown hK.2.1 hw f0 rfl 8 (by decide) (hg _ gf_H_24) (fun _ h9 => h9) rfl (by decide +kernel) rfl rfl (Nat.le_of_ble_eq_true rfl) dd_H_setDry_26 (fun H locs hw => ?_)
    have hw : pm_W z D cl_w (pm_up P h0 (.inr (1, [.int vn, .int vx, .int vy, .int vm, .int vk, .ref aw, .int vc, .int vd, .int x3, .int vt, va_rf ct]))) s.heap H _ := hw
    obtain ⟨P4, eP4⟩ : ∃ pmv : pm_T, pmv = pm_up P h0 (.inr (1, [.int vn, .int vx, .int vy, .int vm, .int vk, .ref aw, .int vc, .int vd, .int x3, .int vt, va_rf ct])) := ⟨_, rfl⟩
    rw [← eP4] at hw
    have f5 : P4 h0 = some (.inr (1, [.int vn, .int vx, .int vy, .int vm, .int vk, .ref aw, .int vc, .int vd, .int x3, .int vt, va_rf ct])) := by rw [eP4]; exact pm_s
    refine cx_vret hx hb hr hlocks hw dd_H_setDry_29 (by decide) (by decide) ?_
    exact ⟨rfl, by rw [eP4, ex3, ex1]; simp only [su_set, if_pos c2]⟩
  · skip
    refine lv_aload_n hx hb dd_H_setDry_9 rfl (lv_at hl 1 rfl) ?_
    refine pm_get (ci := 1) (C := cn_H) (T := cf_H) (N := 11) (v := .int vr) hx hb hg gu_H hown hK.2.1 hw f0 rfl 8 (by decide) (hg _ gf_H_24) (fun _ h9 => h9) rfl dd_H_setDry_10 ?_
    refine lv_iload_n hx hb dd_H_setDry_13 rfl (lv_at hl 0 rfl) ?_
    refine lv_ior hx hb dd_H_setDry_14 ?_
    refine lv_goto (tgt := 26) hx hb dd_H_setDry_15 (by decide) ?_
    refine lv_topi (fun x6 ex6 => ?_)
    refine pm_put (ci := 1) (v := .int x6) (ty := .int) (C := cn_H) (T := cf_H) (N := 11) hx hb hg gu_H ct_H co_H cm_H hown hK.2.1 hw f0 rfl 8 (by decide) (hg _ gf_H_24) (fun _ h9 => h9) rfl (by decide +kernel) rfl rfl (Nat.le_of_ble_eq_true rfl) dd_H_setDry_26 (fun H locs hw => ?_)
    have hw : pm_W z D cl_w (pm_up P h0 (.inr (1, [.int vn, .int vx, .int vy, .int vm, .int vk, .ref aw, .int vc, .int vd, .int x6, .int vt, va_rf ct]))) s.heap H _ := hw
    obtain ⟨P7, eP7⟩ : ∃ pmv : pm_T, pmv = pm_up P h0 (.inr (1, [.int vn, .int vx, .int vy, .int vm, .int vk, .ref aw, .int vc, .int vd, .int x6, .int vt, va_rf ct])) := ⟨_, rfl⟩
    rw [← eP7] at hw
    have f8 : P7 h0 = some (.inr (1, [.int vn, .int vx, .int vy, .int vm, .int vk, .ref aw, .int vc, .int vd, .int x6, .int vt, va_rf ct])) := by rw [eP7]; exact pm_s
    refine cx_vret hx hb hr hlocks hw dd_H_setDry_29 (by decide) (by decide) ?_
    exact ⟨rfl, by rw [eP7, ex6, ex1]; simp only [su_set, if_neg c2]⟩

set_option maxHeartbeats 4000000 in
set_option maxRecDepth 100000 in
theorem c_H_take (l : Launch) (z : Nat) (D : va_G) (ac : Nat → ClassId) (sa : Nat → Nat) (P : pm_T) (h0 aw : Nat) (vn vx vy vm vk vc vd vr vt : Int32) (ct : Option Nat) (tn th td tr tf tl : Nat → Int32) (t0 : Nat) (u0 u1 u2 u3 u4 u5 : Int32) (ft : ∀ q, ct = some q → P q = some (.inr (2, [.int (tn q), .int (th q), .int (td q), .int (tr q), .int (tf q), .int (tl q)]))) (f0 : P h0 = some (.inr (1, [.int vn, .int vx, .int vy, .int vm, .int vk, .ref aw, .int vc, .int vd, .int vr, .int vt, va_rf ct]))) (f1 : P t0 = some (.inr (2, [.int u0, .int u1, .int u2, .int u3, .int u4, .int u5]))) : cx_M l yy_H_take bb_H_take 2 none ({ frames := 0, cells := 0, slots := 0, locals := 0 } : Room) z D ac sa P [.ref h0, .ref t0] (fun v P' => v = none ∧ P' = pm_up P h0 (.inr (1, [.int vn, .int vx, .int vy, .int vm, .int vk, .ref aw, .int vc, .int vd, .int vr, .int (vt + 1), va_rf (su_ct ct td t0 u2)]))) := by
  refine cx_ofM (by decide) (Nat.le_of_ble_eq_true rfl) (fun p e s m below meth c ls hx hb hr hml hg hown hlocks hin hK hw hl => ?_)
  have hl : lv_has ls 2 [(0, .ref h0), (1, .ref t0)] := hl
  have hown : s.vm.findClass cn_H = some m.cls := hown
  rcases ct with _ | q1
  · skip
    refine lv_aload_n hx hb dd_H_take_0 rfl (lv_at hl 0 rfl) ?_
    refine lv_dup hx hb dd_H_take_1 rfl ?_
    refine pm_get (ci := 1) (C := cn_H) (T := cf_H) (N := 11) (v := .int vt) hx hb hg gu_H hown hK.2.1 hw f0 rfl 9 (by decide) (hg _ gf_H_27) (fun _ h9 => h9) rfl dd_H_take_2 ?_
    refine lv_iconst (v := 1) hx hb dd_H_take_5 (by decide) ?_
    refine lv_iadd hx hb dd_H_take_6 ?_
    refine lv_topi (fun x1 ex1 => ?_)
    refine pm_put (ci := 1) (v := .int x1) (ty := .int) (C := cn_H) (T := cf_H) (N := 11) hx hb hg gu_H ct_H co_H cm_H hown hK.2.1 hw f0 rfl 9 (by decide) (hg _ gf_H_27) (fun _ h9 => h9) rfl (by decide +kernel) rfl rfl (Nat.le_of_ble_eq_true rfl) dd_H_take_7 (fun H locs hw => ?_)
    have hw : pm_W z D cl_w (pm_up P h0 (.inr (1, [.int vn, .int vx, .int vy, .int vm, .int vk, .ref aw, .int vc, .int vd, .int vr, .int x1, .null]))) s.heap H _ := hw
    obtain ⟨P2, eP2⟩ : ∃ pmv : pm_T, pmv = pm_up P h0 (.inr (1, [.int vn, .int vx, .int vy, .int vm, .int vk, .ref aw, .int vc, .int vd, .int vr, .int x1, .null])) := ⟨_, rfl⟩
    rw [← eP2] at hw
    have f3 : P2 t0 = some (.inr (2, [.int u0, .int u1, .int u2, .int u3, .int u4, .int u5])) := by rw [eP2, pm_n (pm_ne f1 f0 (by simp))]; exact f1
    have f4 : P2 h0 = some (.inr (1, [.int vn, .int vx, .int vy, .int vm, .int vk, .ref aw, .int vc, .int vd, .int vr, .int x1, .null])) := by rw [eP2]; exact pm_s
    refine lv_aload_n hx hb dd_H_take_10 rfl (lv_at hl 0 rfl) ?_
    refine pm_get (ci := 1) (C := cn_H) (T := cf_H) (N := 11) (v := .null) hx hb hg gu_H hown hK.2.1 hw f4 rfl 10 (by decide) (hg _ gf_H_30) (fun _ h9 => h9) rfl dd_H_take_11 ?_
    refine lv_ifnullN (tgt := 31) hx hb dd_H_take_14 (by decide) ?_
    refine lv_aload_n hx hb dd_H_take_31 rfl (lv_at hl 0 rfl) ?_
    refine lv_aload_n hx hb dd_H_take_32 rfl (lv_at hl 1 rfl) ?_
    refine pm_put (ci := 1) (v := .ref t0) (ty := .object "HydrantRows$Test") (C := cn_H) (T := cf_H) (N := 11) hx hb hg gu_H ct_H co_H cm_H hown hK.2.1 hw f4 rfl 10 (by decide) (hg _ gf_H_30) (fun _ h9 => h9) rfl (by decide +kernel) rfl rfl (Nat.le_of_ble_eq_true rfl) dd_H_take_33 (fun H locs hw => ?_)
    have hw : pm_W z D cl_w (pm_up P2 h0 (.inr (1, [.int vn, .int vx, .int vy, .int vm, .int vk, .ref aw, .int vc, .int vd, .int vr, .int x1, .ref t0]))) s.heap H _ := hw
    obtain ⟨P5, eP5⟩ : ∃ pmv : pm_T, pmv = pm_up P2 h0 (.inr (1, [.int vn, .int vx, .int vy, .int vm, .int vk, .ref aw, .int vc, .int vd, .int vr, .int x1, .ref t0])) := ⟨_, rfl⟩
    rw [← eP5] at hw
    have f6 : P5 t0 = some (.inr (2, [.int u0, .int u1, .int u2, .int u3, .int u4, .int u5])) := by rw [eP5, pm_n (pm_ne f3 f4 (by simp))]; exact f3
    have f7 : P5 h0 = some (.inr (1, [.int vn, .int vx, .int vy, .int vm, .int vk, .ref aw, .int vc, .int vd, .int vr, .int x1, .ref t0])) := by rw [eP5]; exact pm_s
    refine cx_vret hx hb hr hlocks hw dd_H_take_36 (by decide) (by decide) ?_
    exact ⟨rfl, by simp only [eP5, eP2, ex1, pm_uu, su_ct, va_rf]⟩
  · skip
    have fq1 : P q1 = some (.inr (2, [.int (tn q1), .int (th q1), .int (td q1), .int (tr q1), .int (tf q1), .int (tl q1)])) := ft q1 rfl
    refine lv_aload_n hx hb dd_H_take_0 rfl (lv_at hl 0 rfl) ?_
    refine lv_dup hx hb dd_H_take_1 rfl ?_
    refine pm_get (ci := 1) (C := cn_H) (T := cf_H) (N := 11) (v := .int vt) hx hb hg gu_H hown hK.2.1 hw f0 rfl 9 (by decide) (hg _ gf_H_27) (fun _ h9 => h9) rfl dd_H_take_2 ?_
    refine lv_iconst (v := 1) hx hb dd_H_take_5 (by decide) ?_
    refine lv_iadd hx hb dd_H_take_6 ?_
    refine lv_topi (fun x8 ex8 => ?_)
    refine pm_put (ci := 1) (v := .int x8) (ty := .int) (C := cn_H) (T := cf_H) (N := 11) hx hb hg gu_H ct_H co_H cm_H hown hK.2.1 hw f0 rfl 9 (by decide) (hg _ gf_H_27) (fun _ h9 => h9) rfl (by decide +kernel) rfl rfl (Nat.le_of_ble_eq_true rfl) dd_H_take_7 (fun H locs hw => ?_)
    have hw : pm_W z D cl_w (pm_up P h0 (.inr (1, [.int vn, .int vx, .int vy, .int vm, .int vk, .ref aw, .int vc, .int vd, .int vr, .int x8, .ref q1]))) s.heap H _ := hw
    obtain ⟨P9, eP9⟩ : ∃ pmv : pm_T, pmv = pm_up P h0 (.inr (1, [.int vn, .int vx, .int vy, .int vm, .int vk, .ref aw, .int vc, .int vd, .int vr, .int x8, .ref q1])) := ⟨_, rfl⟩
    rw [← eP9] at hw
    have f10 : P9 t0 = some (.inr (2, [.int u0, .int u1, .int u2, .int u3, .int u4, .int u5])) := by rw [eP9, pm_n (pm_ne f1 f0 (by simp))]; exact f1
    have f11 : P9 q1 = some (.inr (2, [.int (tn q1), .int (th q1), .int (td q1), .int (tr q1), .int (tf q1), .int (tl q1)])) := by rw [eP9, pm_n (pm_ne fq1 f0 (by simp))]; exact fq1
    have f12 : P9 h0 = some (.inr (1, [.int vn, .int vx, .int vy, .int vm, .int vk, .ref aw, .int vc, .int vd, .int vr, .int x8, .ref q1])) := by rw [eP9]; exact pm_s
    refine lv_aload_n hx hb dd_H_take_10 rfl (lv_at hl 0 rfl) ?_
    refine pm_get (ci := 1) (C := cn_H) (T := cf_H) (N := 11) (v := .ref q1) hx hb hg gu_H hown hK.2.1 hw f12 rfl 10 (by decide) (hg _ gf_H_30) (fun _ h9 => h9) rfl dd_H_take_11 ?_
    refine lv_ifnull hx hb dd_H_take_14 ?_
    refine lv_aload_n hx hb dd_H_take_17 rfl (lv_at hl 1 rfl) ?_
    refine pm_get (ci := 2) (C := cn_T) (T := cf_T) (N := 6) (v := .int u2) hx hb hg gu_T hown hK.2.1 hw f10 rfl 2 (by decide) (hg _ gf_H_49) (fun _ h9 => h9) rfl dd_H_take_18 ?_
    refine lv_aload_n hx hb dd_H_take_21 rfl (lv_at hl 0 rfl) ?_
    refine pm_get (ci := 1) (C := cn_H) (T := cf_H) (N := 11) (v := .ref q1) hx hb hg gu_H hown hK.2.1 hw f12 rfl 10 (by decide) (hg _ gf_H_30) (fun _ h9 => h9) rfl dd_H_take_22 ?_
    refine pm_get (ci := 2) (C := cn_T) (T := cf_T) (N := 6) (v := .int (td q1)) hx hb hg gu_T hown hK.2.1 hw f11 rfl 2 (by decide) (hg _ gf_H_49) (fun _ h9 => h9) rfl dd_H_take_25 ?_
    refine lv_icmp_lt (tgt := 36) hx hb dd_H_take_28 (by decide) (fun c13 => ?_) (fun c13 => ?_)
    · skip
      refine cx_vret hx hb hr hlocks hw dd_H_take_36 (by decide) (by decide) ?_
      exact ⟨rfl, by simp only [eP9, ex8, pm_uu, su_ct, va_rf, if_pos c13]⟩
    · skip
      refine lv_aload_n hx hb dd_H_take_31 rfl (lv_at hl 0 rfl) ?_
      refine lv_aload_n hx hb dd_H_take_32 rfl (lv_at hl 1 rfl) ?_
      refine pm_put (ci := 1) (v := .ref t0) (ty := .object "HydrantRows$Test") (C := cn_H) (T := cf_H) (N := 11) hx hb hg gu_H ct_H co_H cm_H hown hK.2.1 hw f12 rfl 10 (by decide) (hg _ gf_H_30) (fun _ h9 => h9) rfl (by decide +kernel) rfl rfl (Nat.le_of_ble_eq_true rfl) dd_H_take_33 (fun H locs hw => ?_)
      have hw : pm_W z D cl_w (pm_up P9 h0 (.inr (1, [.int vn, .int vx, .int vy, .int vm, .int vk, .ref aw, .int vc, .int vd, .int vr, .int x8, .ref t0]))) s.heap H _ := hw
      obtain ⟨P14, eP14⟩ : ∃ pmv : pm_T, pmv = pm_up P9 h0 (.inr (1, [.int vn, .int vx, .int vy, .int vm, .int vk, .ref aw, .int vc, .int vd, .int vr, .int x8, .ref t0])) := ⟨_, rfl⟩
      rw [← eP14] at hw
      have f15 : P14 t0 = some (.inr (2, [.int u0, .int u1, .int u2, .int u3, .int u4, .int u5])) := by rw [eP14, pm_n (pm_ne f10 f12 (by simp))]; exact f10
      have f16 : P14 q1 = some (.inr (2, [.int (tn q1), .int (th q1), .int (td q1), .int (tr q1), .int (tf q1), .int (tl q1)])) := by rw [eP14, pm_n (pm_ne f11 f12 (by simp))]; exact f11
      have f17 : P14 h0 = some (.inr (1, [.int vn, .int vx, .int vy, .int vm, .int vk, .ref aw, .int vc, .int vd, .int vr, .int x8, .ref t0])) := by rw [eP14]; exact pm_s
      refine cx_vret hx hb hr hlocks hw dd_H_take_36 (by decide) (by decide) ?_
      exact ⟨rfl, by simp only [eP14, eP9, ex8, pm_uu, su_ct, va_rf, if_neg c13]⟩
