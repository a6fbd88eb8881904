/-- what a test tells at a pressure -/
def su_up (r f p : Int32) : Int32 := if p < r then f * (r - p) else 0
def su_lo (r l p : Int32) : Int32 := if p < r then r - l else 1
def su_wh (r f l p : Int32) : Int32 := if su_lo r l p ≤ 0 then 0 else su_up r f p / su_lo r l p
def su_ab (x : Int32) : Int32 := if 0 ≤ x then x else 0 - x
theorem su_1 {b : Prop} [Decidable b] : narrow .boolean (.int (if b then 1 else 0)) = .int (if b then 1 else 0) := by by_cases h : b <;> simp only [h, if_true, if_false] <;> decide

set_option maxHeartbeats 4000000 in
set_option maxRecDepth 100000 in
theorem c_T_upperAt (l : Launch) (z : Nat) (D : va_G) (ac : Nat → ClassId) (sa : Nat → Nat) (P : pm_T) (h0 : Nat) (tn th td tr tf tl : Int32) (p1 : Int32) (f0 : P h0 = some (.inr (2, [.int tn, .int th, .int td, .int tr, .int tf, .int tl]))) : cx_M l yy_T_upperAt bb_T_upperAt 2 (some .int) ({ frames := 0, cells := 0, slots := 0, locals := 0 } : Room) z D ac sa P [.ref h0, .int p1] (fun v P' => v = some (.int (su_up tr tf p1)) ∧ P' = P) := by
  refine cx_ofM (by decide) (Nat.le_of_ble_eq_true rfl) (fun p e s m below meth c ls hx hb hr hml hg hown hlocks hin hK hw hl => ?_)
  have hl : lv_has ls 2 [(0, .ref h0), (1, .int p1)] := hl
  have hown : s.vm.findClass cn_T = some m.cls := hown
  refine lv_iload_n hx hb dd_T_upperAt_0 rfl (lv_at hl 1 rfl) ?_
  refine lv_aload_n hx hb dd_T_upperAt_1 rfl (lv_at hl 0 rfl) ?_
  refine pm_get (ci := 2) (C := cn_T) (T := cf_T) (N := 6) (v := .int tr) hx hb hg gu_T hown hK.2.1 hw f0 rfl 3 (by decide) (hg _ gf_T_19) (fun _ h9 => h9) rfl dd_T_upperAt_2 ?_
  refine lv_icmp_lt (tgt := 12) hx hb dd_T_upperAt_5 (by decide) (fun c1 => ?_) (fun c1 => ?_)
  · skip
    refine lv_aload_n hx hb dd_T_upperAt_12 rfl (lv_at hl 0 rfl) ?_
    refine pm_get (ci := 2) (C := cn_T) (T := cf_T) (N := 6) (v := .int tf) hx hb hg gu_T hown hK.2.1 hw f0 rfl 4 (by decide) (hg _ gf_T_22) (fun _ h9 => h9) rfl dd_T_upperAt_13 ?_
    refine lv_aload_n hx hb dd_T_upperAt_16 rfl (lv_at hl 0 rfl) ?_
    refine pm_get (ci := 2) (C := cn_T) (T := cf_T) (N := 6) (v := .int tr) hx hb hg gu_T hown hK.2.1 hw f0 rfl 3 (by decide) (hg _ gf_T_19) (fun _ h9 => h9) rfl dd_T_upperAt_17 ?_
    refine lv_iload_n hx hb dd_T_upperAt_20 rfl (lv_at hl 1 rfl) ?_
    refine lv_isub hx hb dd_T_upperAt_21 ?_
    refine lv_imul hx hb dd_T_upperAt_22 ?_
    refine cx_iret (v := (tf * (tr - p1))) hx hb hr rfl hlocks hw dd_T_upperAt_23 (by decide) (by decide) ?_
    exact ⟨by simp only [su_up, if_pos c1], rfl⟩
  · skip
    refine lv_iconst (v := 0) hx hb dd_T_upperAt_8 (by decide) ?_
    refine lv_goto (tgt := 23) hx hb dd_T_upperAt_9 (by decide) ?_
    refine cx_iret (v := (0 : Int32)) hx hb hr rfl hlocks hw dd_T_upperAt_23 (by decide) (by decide) ?_
    exact ⟨by simp only [su_up, if_neg c1], rfl⟩

set_option maxHeartbeats 4000000 in
set_option maxRecDepth 100000 in
theorem c_T_lowerAt (l : Launch) (z : Nat) (D : va_G) (ac : Nat → ClassId) (sa : Nat → Nat) (P : pm_T) (h0 : Nat) (tn th td tr tf tl : Int32) (p1 : Int32) (f0 : P h0 = some (.inr (2, [.int tn, .int th, .int td, .int tr, .int tf, .int tl]))) : cx_M l yy_T_lowerAt bb_T_lowerAt 2 (some .int) ({ frames := 0, cells := 0, slots := 0, locals := 0 } : Room) z D ac sa P [.ref h0, .int p1] (fun v P' => v = some (.int (su_lo tr tl p1)) ∧ P' = P) := by
  refine cx_ofM (by decide) (Nat.le_of_ble_eq_true rfl) (fun p e s m below meth c ls hx hb hr hml hg hown hlocks hin hK hw hl => ?_)
  have hl : lv_has ls 2 [(0, .ref h0), (1, .int p1)] := hl
  have hown : s.vm.findClass cn_T = some m.cls := hown
  refine lv_iload_n hx hb dd_T_lowerAt_0 rfl (lv_at hl 1 rfl) ?_
  refine lv_aload_n hx hb dd_T_lowerAt_1 rfl (lv_at hl 0 rfl) ?_
  refine pm_get (ci := 2) (C := cn_T) (T := cf_T) (N := 6) (v := .int tr) hx hb hg gu_T hown hK.2.1 hw f0 rfl 3 (by decide) (hg _ gf_T_19) (fun _ h9 => h9) rfl dd_T_lowerAt_2 ?_
  refine lv_icmp_lt (tgt := 12) hx hb dd_T_lowerAt_5 (by decide) (fun c1 => ?_) (fun c1 => ?_)
  · skip
    refine lv_aload_n hx hb dd_T_lowerAt_12 rfl (lv_at hl 0 rfl) ?_
    refine pm_get (ci := 2) (C := cn_T) (T := cf_T) (N := 6) (v := .int tr) hx hb hg gu_T hown hK.2.1 hw f0 rfl 3 (by decide) (hg _ gf_T_19) (fun _ h9 => h9) rfl dd_T_lowerAt_13 ?_
    refine lv_aload_n hx hb dd_T_lowerAt_16 rfl (lv_at hl 0 rfl) ?_
    refine pm_get (ci := 2) (C := cn_T) (T := cf_T) (N := 6) (v := .int tl) hx hb hg gu_T hown hK.2.1 hw f0 rfl 5 (by decide) (hg _ gf_T_25) (fun _ h9 => h9) rfl dd_T_lowerAt_17 ?_
    refine lv_isub hx hb dd_T_lowerAt_20 ?_
    refine cx_iret (v := (tr - tl)) hx hb hr rfl hlocks hw dd_T_lowerAt_21 (by decide) (by decide) ?_
    exact ⟨by simp only [su_lo, if_pos c1], rfl⟩
  · skip
    refine lv_iconst (v := 1) hx hb dd_T_lowerAt_8 (by decide) ?_
    refine lv_goto (tgt := 21) hx hb dd_T_lowerAt_9 (by decide) ?_
    refine cx_iret (v := (1 : Int32)) hx hb hr rfl hlocks hw dd_T_lowerAt_21 (by decide) (by decide) ?_
    exact ⟨by simp only [su_lo, if_neg c1], rfl⟩

set_option maxHeartbeats 4000000 in
set_option maxRecDepth 100000 in
theorem c_T_canTell (l : Launch) (z : Nat) (D : va_G) (ac : Nat → ClassId) (sa : Nat → Nat) (P : pm_T) (h0 : Nat) (tn th td tr tf tl : Int32) (p1 : Int32) (f0 : P h0 = some (.inr (2, [.int tn, .int th, .int td, .int tr, .int tf, .int tl]))) : cx_M l yy_T_canTell bb_T_canTell 2 (some .boolean) ({ frames := 1, cells := 0, slots := 0, locals := 21 } : Room) z D ac sa P [.ref h0, .int p1] (fun v P' => v = some (.int (if su_lo tr tl p1 ≤ 0 then 0 else 1)) ∧ P' = P) := by
  refine cx_ofM (by decide) (Nat.le_of_ble_eq_true rfl) (fun p e s m below meth c ls hx hb hr hml hg hown hlocks hin hK hw hl => ?_)
  have hl : lv_has ls 2 [(0, .ref h0), (1, .int p1)] := hl
  have hown : s.vm.findClass cn_T = some m.cls := hown
  refine lv_aload_n hx hb dd_T_canTell_0 rfl (lv_at hl 0 rfl) ?_
  refine lv_iload_n hx hb dd_T_canTell_1 rfl (lv_at hl 1 rfl) ?_
  refine cx_after (cx_rV (n := 1) (As := [.int p1]) (rest := []) ⟨hx, hb, hml, hown, hg⟩ (c_T_lowerAt l z D ac sa P h0 tn th td tr tf tl p1 f0) (cx_gv gm_T_28 gi_T_lowerAt gs_T_lowerAt gn_T gc_T_lowerAt) (by decide +kernel) ⟨by decide, by decide⟩ hK hw f0 rfl rfl hl.1 rfl (Nat.le_of_ble_eq_true rfl) dd_T_canTell_2 ⟨by decide, by decide⟩) hw (fun v9 P9 H locs hp hw => ?_)
  obtain ⟨rfl, e9⟩ := hp
  rw [e9] at hw
  clear e9 P9
  refine W.eq (g2 := F0 m 5 ls [.int (su_lo tr tl p1)]) rfl ?_
  refine lv_if_le (tgt := 12) hx hb dd_T_canTell_5 (by decide) (fun c1 => ?_) (fun c1 => ?_)
  · skip
    refine lv_iconst (v := 0) hx hb dd_T_canTell_12 (by decide) ?_
    refine cx_iret (v := (0 : Int32)) hx hb hr (by decide) hlocks hw dd_T_canTell_13 (by decide) (by decide) ?_
    exact ⟨by simp only [if_pos c1], rfl⟩
  · skip
    refine lv_iconst (v := 1) hx hb dd_T_canTell_8 (by decide) ?_
    refine lv_goto (tgt := 13) hx hb dd_T_canTell_9 (by decide) ?_
    refine cx_iret (v := (1 : Int32)) hx hb hr (by decide) hlocks hw dd_T_canTell_13 (by decide) (by decide) ?_
    exact ⟨by simp only [if_neg c1], rfl⟩

set_option maxHeartbeats 4000000 in
set_option maxRecDepth 100000 in
theorem c_T_wholeAt (l : Launch) (z : Nat) (D : va_G) (ac : Nat → ClassId) (sa : Nat → Nat) (P : pm_T) (h0 : Nat) (tn th td tr tf tl : Int32) (p1 : Int32) (f0 : P h0 = some (.inr (2, [.int tn, .int th, .int td, .int tr, .int tf, .int tl]))) : cx_M l yy_T_wholeAt bb_T_wholeAt 3 (some .int) ({ frames := 1, cells := 0, slots := 0, locals := 21 } : Room) z D ac sa P [.ref h0, .int p1] (fun v P' => v = some (.int (su_wh tr tf tl p1)) ∧ P' = P) := by
  refine cx_ofM (by decide) (Nat.le_of_ble_eq_true rfl) (fun p e s m below meth c ls hx hb hr hml hg hown hlocks hin hK hw hl => ?_)
  have hl : lv_has ls 3 [(0, .ref h0), (1, .int p1)] := hl
  have hown : s.vm.findClass cn_T = some m.cls := hown
  refine lv_aload_n hx hb dd_T_wholeAt_0 rfl (lv_at hl 0 rfl) ?_
  refine lv_iload_n hx hb dd_T_wholeAt_1 rfl (lv_at hl 1 rfl) ?_
  refine cx_after (cx_rV (n := 1) (As := [.int p1]) (rest := []) ⟨hx, hb, hml, hown, hg⟩ (c_T_lowerAt l z D ac sa P h0 tn th td tr tf tl p1 f0) (cx_gv gm_T_28 gi_T_lowerAt gs_T_lowerAt gn_T gc_T_lowerAt) (by decide +kernel) ⟨by decide, by decide⟩ hK hw f0 rfl rfl hl.1 rfl (Nat.le_of_ble_eq_true rfl) dd_T_wholeAt_2 ⟨by decide, by decide⟩) hw (fun v9 P9 H locs hp hw => ?_)
  obtain ⟨rfl, e9⟩ := hp
  rw [e9] at hw
  clear e9 P9
  refine W.eq (g2 := F0 m 5 ls [.int (su_lo tr tl p1)]) rfl ?_
  refine lv_topi (fun x1 ex1 => ?_)
  refine lv_istore_n (lv' := [(2, .int x1), (0, .ref h0), (1, .int p1)]) hx hb dd_T_wholeAt_5 rfl hl (by decide) rfl (fun ls hl => ?_)
  refine lv_iload_n hx hb dd_T_wholeAt_6 rfl (lv_at hl 0 rfl) ?_
  refine lv_if_le (tgt := 20) hx hb dd_T_wholeAt_7 (by decide) (fun c2 => ?_) (fun c2 => ?_)
  · skip
    refine lv_iconst (v := 0) hx hb dd_T_wholeAt_20 (by decide) ?_
    refine cx_iret (v := (0 : Int32)) hx hb hr rfl hlocks hw dd_T_wholeAt_21 (by decide) (by decide) ?_
    rw [ex1] at *
    exact ⟨by simp only [su_wh, if_pos c2], rfl⟩
  · skip
    refine lv_aload_n hx hb dd_T_wholeAt_10 rfl (lv_at hl 1 rfl) ?_
    refine lv_iload_n hx hb dd_T_wholeAt_11 rfl (lv_at hl 2 rfl) ?_
    refine cx_after (cx_rV (n := 1) (As := [.int p1]) (rest := []) ⟨hx, hb, hml, hown, hg⟩ (c_T_upperAt l z D ac sa P h0 tn th td tr tf tl p1 f0) (cx_gv gm_T_32 gi_T_upperAt gs_T_upperAt gn_T gc_T_upperAt) (by decide +kernel) ⟨by decide, by decide⟩ hK hw f0 rfl rfl hl.1 rfl (Nat.le_of_ble_eq_true rfl) dd_T_wholeAt_12 ⟨by decide, by decide⟩) hw (fun v9 P9 H locs hp hw => ?_)
    obtain ⟨rfl, e9⟩ := hp
    rw [e9] at hw
    clear e9 P9
    refine W.eq (g2 := F0 m 15 ls [.int (su_up tr tf p1)]) rfl ?_
    refine lv_iload_n hx hb dd_T_wholeAt_15 rfl (lv_at hl 0 rfl) ?_
    refine lv_idiv hx hb dd_T_wholeAt_16 (fun q9 => absurd (by rw [q9]; decide) c2) ?_
    refine lv_goto (tgt := 21) hx hb dd_T_wholeAt_17 (by decide) ?_
    refine cx_iret (v := ((su_up tr tf p1) / x1)) hx hb hr rfl hlocks hw dd_T_wholeAt_21 (by decide) (by decide) ?_
    rw [ex1] at *
    exact ⟨by simp only [su_wh, if_neg c2], rfl⟩

set_option maxHeartbeats 4000000 in
set_option maxRecDepth 100000 in
theorem c_O_meet (l : Launch) (z : Nat) (D : va_G) (ac : Nat → ClassId) (sa : Nat → Nat) (P : pm_T) (h0 : Nat) (wf wt : Int32) (p1 p2 : Int32) (f0 : P h0 = some (.inr (3, [.int wf, .int wt]))) : cx_M l yy_O_meet bb_O_meet 3 (some .boolean) ({ frames := 0, cells := 0, slots := 0, locals := 0 } : Room) z D ac sa P [.ref h0, .int p1, .int p2] (fun v P' => v = some (.int (if wt < p1 then 0 else if p2 < wf then 0 else 1)) ∧ P' = P) := by
  refine cx_ofM (by decide) (Nat.le_of_ble_eq_true rfl) (fun p e s m below meth c ls hx hb hr hml hg hown hlocks hin hK hw hl => ?_)
  have hl : lv_has ls 3 [(0, .ref h0), (1, .int p1), (2, .int p2)] := hl
  have hown : s.vm.findClass cn_O = some m.cls := hown
  refine lv_iload_n hx hb dd_O_meet_0 rfl (lv_at hl 1 rfl) ?_
  refine lv_aload_n hx hb dd_O_meet_1 rfl (lv_at hl 0 rfl) ?_
  refine pm_get (ci := 3) (C := cn_O) (T := cf_O) (N := 2) (v := .int wt) hx hb hg gu_O hown hK.2.1 hw f0 rfl 1 (by decide) (hg _ gf_O_13) (fun _ h9 => h9) rfl dd_O_meet_2 ?_
  refine lv_icmp_gt (tgt := 20) hx hb dd_O_meet_5 (by decide) (fun c1 => ?_) (fun c1 => ?_)
  · skip
    refine lv_iconst (v := 0) hx hb dd_O_meet_20 (by decide) ?_
    refine cx_iret (v := (0 : Int32)) hx hb hr (by decide) hlocks hw dd_O_meet_21 (by decide) (by decide) ?_
    exact ⟨by simp only [if_pos c1], rfl⟩
  · skip
    refine lv_aload_n hx hb dd_O_meet_8 rfl (lv_at hl 0 rfl) ?_
    refine pm_get (ci := 3) (C := cn_O) (T := cf_O) (N := 2) (v := .int wf) hx hb hg gu_O hown hK.2.1 hw f0 rfl 0 (by decide) (hg _ gf_O_7) (fun _ h9 => h9) rfl dd_O_meet_9 ?_
    refine lv_iload_n hx hb dd_O_meet_12 rfl (lv_at hl 2 rfl) ?_
    refine lv_icmp_gt (tgt := 20) hx hb dd_O_meet_13 (by decide) (fun c2 => ?_) (fun c2 => ?_)
    · skip
      refine lv_iconst (v := 0) hx hb dd_O_meet_20 (by decide) ?_
      refine cx_iret (v := (0 : Int32)) hx hb hr (by decide) hlocks hw dd_O_meet_21 (by decide) (by decide) ?_
      exact ⟨by simp only [if_neg c1, if_pos c2], rfl⟩
    · skip
      refine lv_iconst (v := 1) hx hb dd_O_meet_16 (by decide) ?_
      refine lv_goto (tgt := 21) hx hb dd_O_meet_17 (by decide) ?_
      refine cx_iret (v := (1 : Int32)) hx hb hr (by decide) hlocks hw dd_O_meet_21 (by decide) (by decide) ?_
      exact ⟨by simp only [if_neg c1, if_neg c2], rfl⟩
