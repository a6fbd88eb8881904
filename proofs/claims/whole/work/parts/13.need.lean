def su_main (m : Int32) : Prop := ¬ m < 0 ∧ m < 20
def su_pl (x y : Int32) : Prop := ¬ x < -50000 ∧ ¬ 50000 < x ∧ ¬ y < -50000 ∧ y ≤ 50000
def su_day (d : Int32) : Prop := ¬ d < 0 ∧ d ≤ 99999
def su_pr (d : Int32) : Prop := ¬ d < 0 ∧ d ≤ 2000
def su_fl (d : Int32) : Prop := ¬ d < 0 ∧ d ≤ 20000
def su_nn (d : Int32) : Prop := 0 ≤ d
def su_kn (p : Int32) (fH : Nat → Option Nat) : Option Nat := if p < 0 then none else if (40 : Int32) ≤ p then none else fH p.toNatClampNeg
def su_lim (p : Int32) (lm : Nat → Int32) : Int32 := if p < 0 then 0 else if (20 : Int32) ≤ p then 0 else lm p.toNatClampNeg
def su_told (h : Int64) (i : Int32) : Int32 := ((h.toUInt64 >>> ((6 * i).toInt64.toUInt64 &&& Int64.toUInt64 63)).toInt64 &&& 63).toInt32
theorem su_b0 {a : Prop} [Decidable a] (h : (if a then (0 : Int32) else 1) = 0) : a := by
  by_cases h1 : a
  · exact h1
  · rw [if_neg h1] at h; exact absurd h (by decide)
theorem su_b1 {a : Prop} [Decidable a] (h : ¬ (if a then (0 : Int32) else 1) = 0) : ¬ a := fun h1 => h (if_pos h1)

set_option maxHeartbeats 4000000 in
set_option maxRecDepth 100000 in
theorem c_C_needMain (l : Launch) (hT : l.stackTraces = false) (z : Nat) (D : va_G) (ac : Nat → ClassId) (sa : Nat → Nat) (P : pm_T) (h0 aH aT aL aK aW : Nat) (nh nt al : Int32) (lm : Nat → Int32) (p1 : Int32) (f0 : P h0 = some (.inr (0, [.ref aH, .ref aT, .ref aL, .ref aK, .ref aW, .int nh, .int nt, .int al]))) (f1 : P aL = some (.inl (ac 0, 20, .inl lm))) : cx_V l yy_C_needMain bb_C_needMain 2 none ({ frames := 6, cells := 1, slots := 6, locals := 90 } : Room) z D ac sa P [.ref h0, .int p1] (fun v P' => v = none ∧ P' = P ∧ su_main p1) (fun E P' => E = xn_IAE ∧ P' = P ∧ ¬ su_main p1) := by
  refine cx_ofV (by decide) (Nat.le_of_ble_eq_true rfl) (fun p e s m below meth c ls hx hb hr hml hg hown hlocks hout hK hw hl => ?_)
  have hl : lv_has ls 2 [(0, .ref h0), (1, .int p1)] := hl
  have hown : s.vm.findClass cn_C = some m.cls := hown
  refine lv_iload_n hx hb dd_C_needMain_0 rfl (lv_at hl 1 rfl) ?_
  refine lv_if_lt (tgt := 13) hx hb dd_C_needMain_1 (by decide) (fun c1 => ?_) (fun c1 => ?_)
  · skip
    refine cx_thrSW (E := xn_IAE) (text := "no such main") hx hb hT (by rw [hml]; exact hl.1.symm) hown hg hK hw (by decide +kernel) gk_C_54 gn_IllegalArgumentException xg_IAE xb_IAE xo_IAE (by decide +kernel) dd_C_needMain_13 dd_C_needMain_16 dd_C_needMain_17 dd_C_needMain_20 dd_C_needMain_23 hout ⟨by decide, Nat.le_of_ble_eq_true rfl, by decide, by decide⟩ hlocks (by decide) (by decide) ?_
    exact ⟨rfl, rfl, fun h9 => absurd c1 h9.1⟩
  · skip
    refine lv_iload_n hx hb dd_C_needMain_4 rfl (lv_at hl 1 rfl) ?_
    refine lv_aload_n hx hb dd_C_needMain_5 rfl (lv_at hl 0 rfl) ?_
    refine pm_get (ci := 0) (C := cn_C) (T := cf_C) (N := 8) (v := .ref aL) hx hb hg gu_C hown hK.2.1 hw f0 rfl 2 (by decide) (hg _ gf_C_21) (fun _ h9 => h9) rfl dd_C_needMain_6 ?_
    refine pm_alen (v := 20) hx hb hK.2.1 hw 0 f1 rfl rfl dd_C_needMain_9 ?_
    refine lv_icmp_lt (tgt := 24) hx hb dd_C_needMain_10 (by decide) (fun c2 => ?_) (fun c2 => ?_)
    · skip
      refine vx_ret (cx_vret hx hb hr hlocks hw dd_C_needMain_24 (by decide) (by decide) ?_)
      exact ⟨rfl, rfl, ⟨c1, c2⟩⟩
    · skip
      refine cx_thrSW (E := xn_IAE) (text := "no such main") hx hb hT (by rw [hml]; exact hl.1.symm) hown hg hK hw (by decide +kernel) gk_C_54 gn_IllegalArgumentException xg_IAE xb_IAE xo_IAE (by decide +kernel) dd_C_needMain_13 dd_C_needMain_16 dd_C_needMain_17 dd_C_needMain_20 dd_C_needMain_23 hout ⟨by decide, Nat.le_of_ble_eq_true rfl, by decide, by decide⟩ hlocks (by decide) (by decide) ?_
      exact ⟨rfl, rfl, fun h9 => absurd h9.2 c2⟩

set_option maxHeartbeats 4000000 in
set_option maxRecDepth 100000 in
theorem c_C_needPlace (l : Launch) (hT : l.stackTraces = false) (z : Nat) (D : va_G) (ac : Nat → ClassId) (sa : Nat → Nat) (P : pm_T)  (p0 p1 : Int32)  : cx_V l yy_C_needPlace bb_C_needPlace 2 none ({ frames := 6, cells := 1, slots := 6, locals := 90 } : Room) z D ac sa P [.int p0, .int p1] (fun v P' => v = none ∧ P' = P ∧ su_pl p0 p1) (fun E P' => E = xn_IOB ∧ P' = P ∧ ¬ su_pl p0 p1) := by
  refine cx_ofV (by decide) (Nat.le_of_ble_eq_true rfl) (fun p e s m below meth c ls hx hb hr hml hg hown hlocks hout hK hw hl => ?_)
  have hl : lv_has ls 2 [(0, .int p0), (1, .int p1)] := hl
  have hown : s.vm.findClass cn_C = some m.cls := hown
  refine lv_iload_n hx hb dd_C_needPlace_0 rfl (lv_at hl 0 rfl) ?_
  refine lv_ldcw (v := (-50000)) hx hb hown (hg _ gq_C_274) dd_C_needPlace_1 ?_
  refine lv_icmp_lt (tgt := 28) hx hb dd_C_needPlace_4 (by decide) (fun c1 => ?_) (fun c1 => ?_)
  · skip
    refine cx_thrSW (E := xn_IOB) (text := "no such place") hx hb hT (by rw [hml]; exact hl.1.symm) hown hg hK hw (by decide +kernel) gk_C_132 gn_IndexOutOfBoundsException xg_IOB xb_IOB xo_IOB (by decide +kernel) dd_C_needPlace_28 dd_C_needPlace_31 dd_C_needPlace_32 dd_C_needPlace_35 dd_C_needPlace_38 hout ⟨by decide, Nat.le_of_ble_eq_true rfl, by decide, by decide⟩ hlocks (by decide) (by decide) ?_
    exact ⟨rfl, rfl, fun h9 => absurd c1 h9.1⟩
  · skip
    refine lv_iload_n hx hb dd_C_needPlace_7 rfl (lv_at hl 0 rfl) ?_
    refine lv_ldcw (v := (50000)) hx hb hown (hg _ gq_C_275) dd_C_needPlace_8 ?_
    refine lv_icmp_gt (tgt := 28) hx hb dd_C_needPlace_11 (by decide) (fun c2 => ?_) (fun c2 => ?_)
    · skip
      refine cx_thrSW (E := xn_IOB) (text := "no such place") hx hb hT (by rw [hml]; exact hl.1.symm) hown hg hK hw (by decide +kernel) gk_C_132 gn_IndexOutOfBoundsException xg_IOB xb_IOB xo_IOB (by decide +kernel) dd_C_needPlace_28 dd_C_needPlace_31 dd_C_needPlace_32 dd_C_needPlace_35 dd_C_needPlace_38 hout ⟨by decide, Nat.le_of_ble_eq_true rfl, by decide, by decide⟩ hlocks (by decide) (by decide) ?_
      exact ⟨rfl, rfl, fun h9 => absurd c2 h9.2.1⟩
    · skip
      refine lv_iload_n hx hb dd_C_needPlace_14 rfl (lv_at hl 1 rfl) ?_
      refine lv_ldcw (v := (-50000)) hx hb hown (hg _ gq_C_274) dd_C_needPlace_15 ?_
      refine lv_icmp_lt (tgt := 28) hx hb dd_C_needPlace_18 (by decide) (fun c3 => ?_) (fun c3 => ?_)
      · skip
        refine cx_thrSW (E := xn_IOB) (text := "no such place") hx hb hT (by rw [hml]; exact hl.1.symm) hown hg hK hw (by decide +kernel) gk_C_132 gn_IndexOutOfBoundsException xg_IOB xb_IOB xo_IOB (by decide +kernel) dd_C_needPlace_28 dd_C_needPlace_31 dd_C_needPlace_32 dd_C_needPlace_35 dd_C_needPlace_38 hout ⟨by decide, Nat.le_of_ble_eq_true rfl, by decide, by decide⟩ hlocks (by decide) (by decide) ?_
        exact ⟨rfl, rfl, fun h9 => absurd c3 h9.2.2.1⟩
      · skip
        refine lv_iload_n hx hb dd_C_needPlace_21 rfl (lv_at hl 1 rfl) ?_
        refine lv_ldcw (v := (50000)) hx hb hown (hg _ gq_C_275) dd_C_needPlace_22 ?_
        refine lv_icmp_le (tgt := 39) hx hb dd_C_needPlace_25 (by decide) (fun c4 => ?_) (fun c4 => ?_)
        · skip
          refine vx_ret (cx_vret hx hb hr hlocks hw dd_C_needPlace_39 (by decide) (by decide) ?_)
          exact ⟨rfl, rfl, ⟨c1, c2, c3, c4⟩⟩
        · skip
          refine cx_thrSW (E := xn_IOB) (text := "no such place") hx hb hT (by rw [hml]; exact hl.1.symm) hown hg hK hw (by decide +kernel) gk_C_132 gn_IndexOutOfBoundsException xg_IOB xb_IOB xo_IOB (by decide +kernel) dd_C_needPlace_28 dd_C_needPlace_31 dd_C_needPlace_32 dd_C_needPlace_35 dd_C_needPlace_38 hout ⟨by decide, Nat.le_of_ble_eq_true rfl, by decide, by decide⟩ hlocks (by decide) (by decide) ?_
          exact ⟨rfl, rfl, fun h9 => absurd h9.2.2.2 c4⟩

set_option maxHeartbeats 4000000 in
set_option maxRecDepth 100000 in
theorem c_C_needDay (l : Launch) (hT : l.stackTraces = false) (z : Nat) (D : va_G) (ac : Nat → ClassId) (sa : Nat → Nat) (P : pm_T)  (p0 : Int32)  : cx_V l yy_C_needDay bb_C_needDay 1 none ({ frames := 6, cells := 1, slots := 6, locals := 90 } : Room) z D ac sa P [.int p0] (fun v P' => v = none ∧ P' = P ∧ su_day p0) (fun E P' => E = xn_IOB ∧ P' = P ∧ ¬ su_day p0) := by
  refine cx_ofV (by decide) (Nat.le_of_ble_eq_true rfl) (fun p e s m below meth c ls hx hb hr hml hg hown hlocks hout hK hw hl => ?_)
  have hl : lv_has ls 1 [(0, .int p0)] := hl
  have hown : s.vm.findClass cn_C = some m.cls := hown
  refine lv_iload_n hx hb dd_C_needDay_0 rfl (lv_at hl 0 rfl) ?_
  refine lv_if_lt (tgt := 11) hx hb dd_C_needDay_1 (by decide) (fun c1 => ?_) (fun c1 => ?_)
  · skip
    refine cx_thrSW (E := xn_IOB) (text := "no such day") hx hb hT (by rw [hml]; exact hl.1.symm) hown hg hK hw (by decide +kernel) gk_C_132 gn_IndexOutOfBoundsException xg_IOB xb_IOB xo_IOB (by decide +kernel) dd_C_needDay_11 dd_C_needDay_14 dd_C_needDay_15 dd_C_needDay_18 dd_C_needDay_21 hout ⟨by decide, Nat.le_of_ble_eq_true rfl, by decide, by decide⟩ hlocks (by decide) (by decide) ?_
    exact ⟨rfl, rfl, fun h9 => absurd c1 h9.1⟩
  · skip
    refine lv_iload_n hx hb dd_C_needDay_4 rfl (lv_at hl 0 rfl) ?_
    refine lv_ldcw (v := (99999)) hx hb hown (hg _ gq_C_278) dd_C_needDay_5 ?_
    refine lv_icmp_le (tgt := 22) hx hb dd_C_needDay_8 (by decide) (fun c2 => ?_) (fun c2 => ?_)
    · skip
      refine vx_ret (cx_vret hx hb hr hlocks hw dd_C_needDay_22 (by decide) (by decide) ?_)
      exact ⟨rfl, rfl, ⟨c1, c2⟩⟩
    · skip
      refine cx_thrSW (E := xn_IOB) (text := "no such day") hx hb hT (by rw [hml]; exact hl.1.symm) hown hg hK hw (by decide +kernel) gk_C_132 gn_IndexOutOfBoundsException xg_IOB xb_IOB xo_IOB (by decide +kernel) dd_C_needDay_11 dd_C_needDay_14 dd_C_needDay_15 dd_C_needDay_18 dd_C_needDay_21 hout ⟨by decide, Nat.le_of_ble_eq_true rfl, by decide, by decide⟩ hlocks (by decide) (by decide) ?_
      exact ⟨rfl, rfl, fun h9 => absurd h9.2 c2⟩

set_option maxHeartbeats 4000000 in
set_option maxRecDepth 100000 in
theorem c_C_needPressure (l : Launch) (hT : l.stackTraces = false) (z : Nat) (D : va_G) (ac : Nat → ClassId) (sa : Nat → Nat) (P : pm_T)  (p0 : Int32)  : cx_V l yy_C_needPressure bb_C_needPressure 1 none ({ frames := 6, cells := 1, slots := 6, locals := 90 } : Room) z D ac sa P [.int p0] (fun v P' => v = none ∧ P' = P ∧ su_pr p0) (fun E P' => E = xn_IOB ∧ P' = P ∧ ¬ su_pr p0) := by
  refine cx_ofV (by decide) (Nat.le_of_ble_eq_true rfl) (fun p e s m below meth c ls hx hb hr hml hg hown hlocks hout hK hw hl => ?_)
  have hl : lv_has ls 1 [(0, .int p0)] := hl
  have hown : s.vm.findClass cn_C = some m.cls := hown
  refine lv_iload_n hx hb dd_C_needPressure_0 rfl (lv_at hl 0 rfl) ?_
  refine lv_if_lt (tgt := 11) hx hb dd_C_needPressure_1 (by decide) (fun c1 => ?_) (fun c1 => ?_)
  · skip
    refine cx_thrSW (E := xn_IOB) (text := "no such pressure") hx hb hT (by rw [hml]; exact hl.1.symm) hown hg hK hw (by decide +kernel) gk_C_132 gn_IndexOutOfBoundsException xg_IOB xb_IOB xo_IOB (by decide +kernel) dd_C_needPressure_11 dd_C_needPressure_14 dd_C_needPressure_15 dd_C_needPressure_18 dd_C_needPressure_21 hout ⟨by decide, Nat.le_of_ble_eq_true rfl, by decide, by decide⟩ hlocks (by decide) (by decide) ?_
    exact ⟨rfl, rfl, fun h9 => absurd c1 h9.1⟩
  · skip
    refine lv_iload_n hx hb dd_C_needPressure_4 rfl (lv_at hl 0 rfl) ?_
    refine lv_sipush (v := 2000) hx hb dd_C_needPressure_5 (by decide) ?_
    refine lv_icmp_le (tgt := 22) hx hb dd_C_needPressure_8 (by decide) (fun c2 => ?_) (fun c2 => ?_)
    · skip
      refine vx_ret (cx_vret hx hb hr hlocks hw dd_C_needPressure_22 (by decide) (by decide) ?_)
      exact ⟨rfl, rfl, ⟨c1, c2⟩⟩
    · skip
      refine cx_thrSW (E := xn_IOB) (text := "no such pressure") hx hb hT (by rw [hml]; exact hl.1.symm) hown hg hK hw (by decide +kernel) gk_C_132 gn_IndexOutOfBoundsException xg_IOB xb_IOB xo_IOB (by decide +kernel) dd_C_needPressure_11 dd_C_needPressure_14 dd_C_needPressure_15 dd_C_needPressure_18 dd_C_needPressure_21 hout ⟨by decide, Nat.le_of_ble_eq_true rfl, by decide, by decide⟩ hlocks (by decide) (by decide) ?_
      exact ⟨rfl, rfl, fun h9 => absurd h9.2 c2⟩

set_option maxHeartbeats 4000000 in
set_option maxRecDepth 100000 in
theorem c_C_needFlow (l : Launch) (hT : l.stackTraces = false) (z : Nat) (D : va_G) (ac : Nat → ClassId) (sa : Nat → Nat) (P : pm_T)  (p0 : Int32)  : cx_V l yy_C_needFlow bb_C_needFlow 1 none ({ frames := 6, cells := 1, slots := 6, locals := 90 } : Room) z D ac sa P [.int p0] (fun v P' => v = none ∧ P' = P ∧ su_fl p0) (fun E P' => E = xn_IOB ∧ P' = P ∧ ¬ su_fl p0) := by
  refine cx_ofV (by decide) (Nat.le_of_ble_eq_true rfl) (fun p e s m below meth c ls hx hb hr hml hg hown hlocks hout hK hw hl => ?_)
  have hl : lv_has ls 1 [(0, .int p0)] := hl
  have hown : s.vm.findClass cn_C = some m.cls := hown
  refine lv_iload_n hx hb dd_C_needFlow_0 rfl (lv_at hl 0 rfl) ?_
  refine lv_if_lt (tgt := 11) hx hb dd_C_needFlow_1 (by decide) (fun c1 => ?_) (fun c1 => ?_)
  · skip
    refine cx_thrSW (E := xn_IOB) (text := "no such flow") hx hb hT (by rw [hml]; exact hl.1.symm) hown hg hK hw (by decide +kernel) gk_C_132 gn_IndexOutOfBoundsException xg_IOB xb_IOB xo_IOB (by decide +kernel) dd_C_needFlow_11 dd_C_needFlow_14 dd_C_needFlow_15 dd_C_needFlow_18 dd_C_needFlow_21 hout ⟨by decide, Nat.le_of_ble_eq_true rfl, by decide, by decide⟩ hlocks (by decide) (by decide) ?_
    exact ⟨rfl, rfl, fun h9 => absurd c1 h9.1⟩
  · skip
    refine lv_iload_n hx hb dd_C_needFlow_4 rfl (lv_at hl 0 rfl) ?_
    refine lv_sipush (v := 20000) hx hb dd_C_needFlow_5 (by decide) ?_
    refine lv_icmp_le (tgt := 22) hx hb dd_C_needFlow_8 (by decide) (fun c2 => ?_) (fun c2 => ?_)
    · skip
      refine vx_ret (cx_vret hx hb hr hlocks hw dd_C_needFlow_22 (by decide) (by decide) ?_)
      exact ⟨rfl, rfl, ⟨c1, c2⟩⟩
    · skip
      refine cx_thrSW (E := xn_IOB) (text := "no such flow") hx hb hT (by rw [hml]; exact hl.1.symm) hown hg hK hw (by decide +kernel) gk_C_132 gn_IndexOutOfBoundsException xg_IOB xb_IOB xo_IOB (by decide +kernel) dd_C_needFlow_11 dd_C_needFlow_14 dd_C_needFlow_15 dd_C_needFlow_18 dd_C_needFlow_21 hout ⟨by decide, Nat.le_of_ble_eq_true rfl, by decide, by decide⟩ hlocks (by decide) (by decide) ?_
      exact ⟨rfl, rfl, fun h9 => absurd h9.2 c2⟩

set_option maxHeartbeats 4000000 in
set_option maxRecDepth 100000 in
theorem c_C_needNotBelowZero (l : Launch) (hT : l.stackTraces = false) (z : Nat) (D : va_G) (ac : Nat → ClassId) (sa : Nat → Nat) (P : pm_T)  (p0 : Int32)  : cx_V l yy_C_needNotBelowZero bb_C_needNotBelowZero 1 none ({ frames := 6, cells := 1, slots := 6, locals := 90 } : Room) z D ac sa P [.int p0] (fun v P' => v = none ∧ P' = P ∧ su_nn p0) (fun E P' => E = xn_IOB ∧ P' = P ∧ ¬ su_nn p0) := by
  refine cx_ofV (by decide) (Nat.le_of_ble_eq_true rfl) (fun p e s m below meth c ls hx hb hr hml hg hown hlocks hout hK hw hl => ?_)
  have hl : lv_has ls 1 [(0, .int p0)] := hl
  have hown : s.vm.findClass cn_C = some m.cls := hown
  refine lv_iload_n hx hb dd_C_needNotBelowZero_0 rfl (lv_at hl 0 rfl) ?_
  refine lv_if_ge (tgt := 15) hx hb dd_C_needNotBelowZero_1 (by decide) (fun c1 => ?_) (fun c1 => ?_)
  · skip
    refine vx_ret (cx_vret hx hb hr hlocks hw dd_C_needNotBelowZero_15 (by decide) (by decide) ?_)
    exact ⟨rfl, rfl, c1⟩
  · skip
    refine cx_thrSW (E := xn_IOB) (text := "the place in the row is below 0") hx hb hT (by rw [hml]; exact hl.1.symm) hown hg hK hw (by decide +kernel) gk_C_132 gn_IndexOutOfBoundsException xg_IOB xb_IOB xo_IOB (by decide +kernel) dd_C_needNotBelowZero_4 dd_C_needNotBelowZero_7 dd_C_needNotBelowZero_8 dd_C_needNotBelowZero_11 dd_C_needNotBelowZero_14 hout ⟨by decide, Nat.le_of_ble_eq_true rfl, by decide, by decide⟩ hlocks (by decide) (by decide) ?_
    exact ⟨rfl, rfl, fun h9 => absurd h9 c1⟩

set_option maxHeartbeats 4000000 in
set_option maxRecDepth 100000 in
theorem c_C_known (l : Launch) (hT : l.stackTraces = false) (z : Nat) (D : va_G) (ac : Nat → ClassId) (sa : Nat → Nat) (P : pm_T) (h0 aH aT aL aK aW : Nat) (nh nt al : Int32) (fH : Nat → Option Nat) (p1 : Int32) (f0 : P h0 = some (.inr (0, [.ref aH, .ref aT, .ref aL, .ref aK, .ref aW, .int nh, .int nt, .int al]))) (f1 : P aH = some (.inl (ac 3, 40, .inr (.inr (.inr (.inr fH)))))) : cx_V l yy_C_known bb_C_known 3 (some (.object "HydrantRows$Hydrant")) ({ frames := 6, cells := 1, slots := 6, locals := 90 } : Room) z D ac sa P [.ref h0, .int p1] (fun v P' => ∃ q : Nat, v = some (.ref q) ∧ P' = P ∧ su_kn p1 fH = some q) (fun E P' => E = xn_IAE ∧ P' = P ∧ su_kn p1 fH = none) := by
  refine cx_ofV (by decide) (Nat.le_of_ble_eq_true rfl) (fun p e s m below meth c ls hx hb hr hml hg hown hlocks hout hK hw hl => ?_)
  have hl : lv_has ls 3 [(0, .ref h0), (1, .int p1)] := hl
  have hown : s.vm.findClass cn_C = some m.cls := hown
  refine lv_iload_n hx hb dd_C_known_0 rfl (lv_at hl 1 rfl) ?_
  refine lv_if_lt (tgt := 22) hx hb dd_C_known_1 (by decide) (fun c1 => ?_) (fun c1 => ?_)
  · skip
    refine lv_null hx hb dd_C_known_22 ?_
    refine lv_astore_nN (lv' := [(2, .null), (0, .ref h0), (1, .int p1)]) hx hb dd_C_known_23 rfl hl (by decide) rfl (fun ls hl => ?_)
    refine lv_aload_nN hx hb dd_C_known_24 rfl (lv_at hl 0 rfl) ?_
    refine lv_ifnonnullN hx hb dd_C_known_25 ?_
    refine cx_thrS (E := xn_IAE) (text := "no such hydrant") hx hb hT (by rw [hml]; exact hl.1.symm) hown hg hK hw (by decide +kernel) gk_C_54 gn_IllegalArgumentException xg_IAE xb_IAE xo_IAE (by decide +kernel) dd_C_known_28 dd_C_known_31 dd_C_known_32 dd_C_known_34 dd_C_known_37 hout ⟨by decide, Nat.le_of_ble_eq_true rfl, by decide, by decide⟩ hlocks (by decide) (by decide) ?_
    exact ⟨rfl, rfl, by rw [su_kn, if_pos c1]⟩
  · skip
    refine lv_iload_n hx hb dd_C_known_4 rfl (lv_at hl 1 rfl) ?_
    refine lv_aload_n hx hb dd_C_known_5 rfl (lv_at hl 0 rfl) ?_
    refine pm_get (ci := 0) (C := cn_C) (T := cf_C) (N := 8) (v := .ref aH) hx hb hg gu_C hown hK.2.1 hw f0 rfl 0 (by decide) (hg _ gf_C_11) (fun _ h9 => h9) rfl dd_C_known_6 ?_
    refine pm_alen (v := 40) hx hb hK.2.1 hw 3 f1 rfl rfl dd_C_known_9 ?_
    refine lv_icmp_ge (tgt := 22) hx hb dd_C_known_10 (by decide) (fun c2 => ?_) (fun c2 => ?_)
    · skip
      refine lv_null hx hb dd_C_known_22 ?_
      refine lv_astore_nN (lv' := [(2, .null), (0, .ref h0), (1, .int p1)]) hx hb dd_C_known_23 rfl hl (by decide) rfl (fun ls hl => ?_)
      refine lv_aload_nN hx hb dd_C_known_24 rfl (lv_at hl 0 rfl) ?_
      refine lv_ifnonnullN hx hb dd_C_known_25 ?_
      refine cx_thrS (E := xn_IAE) (text := "no such hydrant") hx hb hT (by rw [hml]; exact hl.1.symm) hown hg hK hw (by decide +kernel) gk_C_54 gn_IllegalArgumentException xg_IAE xb_IAE xo_IAE (by decide +kernel) dd_C_known_28 dd_C_known_31 dd_C_known_32 dd_C_known_34 dd_C_known_37 hout ⟨by decide, Nat.le_of_ble_eq_true rfl, by decide, by decide⟩ hlocks (by decide) (by decide) ?_
      exact ⟨rfl, rfl, by rw [su_kn, if_neg c1, if_pos c2]⟩
    · skip
      refine lv_aload_n hx hb dd_C_known_13 rfl (lv_at hl 0 rfl) ?_
      refine pm_get (ci := 0) (C := cn_C) (T := cf_C) (N := 8) (v := .ref aH) hx hb hg gu_C hown hK.2.1 hw f0 rfl 0 (by decide) (hg _ gf_C_11) (fun _ h9 => h9) rfl dd_C_known_14 ?_
      refine lv_iload_n hx hb dd_C_known_17 rfl (lv_at hl 1 rfl) ?_
      refine pm_aald hx hb hK.2.1 hw 3 f1 rfl (vp_in_ge (n := 40) (by decide) c1 c2) dd_C_known_18 ?_
      rcases hq : (fH p1.toNatClampNeg) with _ | q1
      · skip
        refine W.eq (g2 := F0 m 19 ls [.null]) rfl ?_
        refine lv_goto (tgt := 23) hx hb dd_C_known_19 (by decide) ?_
        refine lv_astore_nN (lv' := [(2, .null), (0, .ref h0), (1, .int p1)]) hx hb dd_C_known_23 rfl hl (by decide) rfl (fun ls hl => ?_)
        refine lv_aload_nN hx hb dd_C_known_24 rfl (lv_at hl 0 rfl) ?_
        refine lv_ifnonnullN hx hb dd_C_known_25 ?_
        refine cx_thrS (E := xn_IAE) (text := "no such hydrant") hx hb hT (by rw [hml]; exact hl.1.symm) hown hg hK hw (by decide +kernel) gk_C_54 gn_IllegalArgumentException xg_IAE xb_IAE xo_IAE (by decide +kernel) dd_C_known_28 dd_C_known_31 dd_C_known_32 dd_C_known_34 dd_C_known_37 hout ⟨by decide, Nat.le_of_ble_eq_true rfl, by decide, by decide⟩ hlocks (by decide) (by decide) ?_
        exact ⟨rfl, rfl, by rw [su_kn, if_neg c1, if_neg c2, hq]⟩
      · skip
        refine W.eq (g2 := F0 m 19 ls [.ref q1]) rfl ?_
        refine lv_goto (tgt := 23) hx hb dd_C_known_19 (by decide) ?_
        refine lv_astore_n (lv' := [(2, .ref q1), (0, .ref h0), (1, .int p1)]) hx hb dd_C_known_23 rfl hl (by decide) rfl (fun ls hl => ?_)
        refine lv_aload_n hx hb dd_C_known_24 rfl (lv_at hl 0 rfl) ?_
        refine lv_ifnonnull (tgt := 38) hx hb dd_C_known_25 (by decide) ?_
        refine lv_aload_n hx hb dd_C_known_38 rfl (lv_at hl 0 rfl) ?_
        refine vx_ret (cx_aret (v := q1) hx hb hr hlocks hw dd_C_known_39 (by decide) (by decide) ?_)
        exact ⟨q1, rfl, rfl, by rw [su_kn, if_neg c1, if_neg c2, hq]⟩

set_option maxHeartbeats 4000000 in
set_option maxRecDepth 100000 in
theorem c_C_countingTest (l : Launch) (hT : l.stackTraces = false) (z : Nat) (D : va_G) (ac : Nat → ClassId) (sa : Nat → Nat) (P : pm_T) (h0 aw : Nat) (vn vx vy vm vk vc vd vr vt : Int32) (ct : Option Nat) (f0 : P h0 = some (.inr (1, [.int vn, .int vx, .int vy, .int vm, .int vk, .ref aw, .int vc, .int vd, .int vr, .int vt, va_rf ct]))) : cx_V l yy_C_countingTest bb_C_countingTest 2 (some (.object "HydrantRows$Test")) ({ frames := 6, cells := 1, slots := 6, locals := 90 } : Room) z D ac sa P [.ref h0] (fun v P' => ∃ q : Nat, v = some (.ref q) ∧ P' = P ∧ ct = some q) (fun E P' => E = xn_ISE ∧ P' = P ∧ ct = none) := by
  refine cx_ofV (by decide) (Nat.le_of_ble_eq_true rfl) (fun p e s m below meth c ls hx hb hr hml hg hown hlocks hout hK hw hl => ?_)
  have hl : lv_has ls 2 [(0, .ref h0)] := hl
  have hown : s.vm.findClass cn_C = some m.cls := hown
  refine lv_aload_n hx hb dd_C_countingTest_0 rfl (lv_at hl 0 rfl) ?_
  refine pm_get (ci := 1) (C := cn_H) (T := cf_H) (N := 11) (v := va_rf ct) hx hb hg gu_H hown hK.2.1 hw f0 rfl 10 (by decide) (hg _ gf_C_257) (fun _ h9 => h9) rfl dd_C_countingTest_1 ?_
  rcases ct with _ | q1
  · skip
    refine W.eq (g2 := F0 m 4 ls [.null]) rfl ?_
    refine lv_astore_nN (lv' := [(1, .null), (0, .ref h0)]) hx hb dd_C_countingTest_4 rfl hl (by decide) rfl (fun ls hl => ?_)
    refine lv_aload_nN hx hb dd_C_countingTest_5 rfl (lv_at hl 0 rfl) ?_
    refine lv_ifnonnullN hx hb dd_C_countingTest_6 ?_
    refine cx_thrSW (E := xn_ISE) (text := "it has no test") hx hb hT (by rw [hml]; exact hl.1.symm) hown hg hK hw (by decide +kernel) gk_C_86 gn_IllegalStateException xg_ISE xb_ISE xo_ISE (by decide +kernel) dd_C_countingTest_9 dd_C_countingTest_12 dd_C_countingTest_13 dd_C_countingTest_16 dd_C_countingTest_19 hout ⟨by decide, Nat.le_of_ble_eq_true rfl, by decide, by decide⟩ hlocks (by decide) (by decide) ?_
    exact ⟨rfl, rfl, rfl⟩
  · skip
    refine W.eq (g2 := F0 m 4 ls [.ref q1]) rfl ?_
    refine lv_astore_n (lv' := [(1, .ref q1), (0, .ref h0)]) hx hb dd_C_countingTest_4 rfl hl (by decide) rfl (fun ls hl => ?_)
    refine lv_aload_n hx hb dd_C_countingTest_5 rfl (lv_at hl 0 rfl) ?_
    refine lv_ifnonnull (tgt := 20) hx hb dd_C_countingTest_6 (by decide) ?_
    refine lv_aload_n hx hb dd_C_countingTest_20 rfl (lv_at hl 0 rfl) ?_
    refine vx_ret (cx_aret (v := q1) hx hb hr hlocks hw dd_C_countingTest_21 (by decide) (by decide) ?_)
    exact ⟨q1, rfl, rfl, rfl⟩

set_option maxHeartbeats 4000000 in
set_option maxRecDepth 100000 in
theorem c_C_needTold (l : Launch) (hT : l.stackTraces = false) (z : Nat) (D : va_G) (ac : Nat → ClassId) (sa : Nat → Nat) (P : pm_T) (h0 : Nat) (tn th td tr tf tl : Int32) (p1 : Int32) (f0 : P h0 = some (.inr (2, [.int tn, .int th, .int td, .int tr, .int tf, .int tl]))) : cx_V l yy_C_needTold bb_C_needTold 2 none ({ frames := 6, cells := 1, slots := 6, locals := 90 } : Room) z D ac sa P [.ref h0, .int p1] (fun v P' => v = none ∧ P' = P ∧ ¬ su_lo tr tl p1 ≤ 0) (fun E P' => E = xn_ARE ∧ P' = P ∧ su_lo tr tl p1 ≤ 0) := by
  refine cx_ofV (by decide) (Nat.le_of_ble_eq_true rfl) (fun p e s m below meth c ls hx hb hr hml hg hown hlocks hout hK hw hl => ?_)
  have hl : lv_has ls 2 [(0, .ref h0), (1, .int p1)] := hl
  have hown : s.vm.findClass cn_C = some m.cls := hown
  refine lv_aload_n hx hb dd_C_needTold_0 rfl (lv_at hl 0 rfl) ?_
  refine lv_iload_n hx hb dd_C_needTold_1 rfl (lv_at hl 1 rfl) ?_
  refine cx_after (cx_rV (n := 1) (As := [.int p1]) (rest := []) ⟨hx, hb, hml, hown, hg⟩ (c_T_canTell l z D ac sa P h0 tn th td tr tf tl p1 f0) (cx_gv gm_C_263 gi_T_canTell gs_T_canTell gn_T gc_T_canTell) (by decide +kernel) ⟨by decide, by decide⟩ hK hw f0 rfl rfl hl.1 rfl (Nat.le_of_ble_eq_true rfl) dd_C_needTold_2 ⟨by decide, by decide⟩) hw (fun v9 P9 H locs hp hw => ?_)
  obtain ⟨rfl, e9⟩ := hp
  rw [e9] at hw
  clear e9 P9
  refine W.eq (g2 := F0 m 5 ls [.int (if su_lo tr tl p1 ≤ 0 then 0 else 1)]) rfl ?_
  refine lv_if_ne (tgt := 19) hx hb dd_C_needTold_5 (by decide) (fun c1 => ?_) (fun c1 => ?_)
  · skip
    refine vx_ret (cx_vret hx hb hr hlocks hw dd_C_needTold_19 (by decide) (by decide) ?_)
    exact ⟨rfl, rfl, su_b1 c1⟩
  · skip
    refine cx_thrSW (E := xn_ARE) (text := "the flow can't be told") hx hb hT (by rw [hml]; exact hl.1.symm) hown hg hK hw (by decide +kernel) gk_C_267 gn_ArithmeticException xg_ARE xb_ARE xo_ARE (by decide +kernel) dd_C_needTold_8 dd_C_needTold_11 dd_C_needTold_12 dd_C_needTold_15 dd_C_needTold_18 hout ⟨by decide, Nat.le_of_ble_eq_true rfl, by decide, by decide⟩ hlocks (by decide) (by decide) ?_
    exact ⟨rfl, rfl, su_b0 c1⟩

set_option maxHeartbeats 4000000 in
set_option maxRecDepth 100000 in
theorem c_C_limitOf (l : Launch) (z : Nat) (D : va_G) (ac : Nat → ClassId) (sa : Nat → Nat) (P : pm_T) (h0 aH aT aL aK aW : Nat) (nh nt al : Int32) (lm : Nat → Int32) (p1 : Int32) (f0 : P h0 = some (.inr (0, [.ref aH, .ref aT, .ref aL, .ref aK, .ref aW, .int nh, .int nt, .int al]))) (f1 : P aL = some (.inl (ac 0, 20, .inl lm))) : cx_M l yy_C_limitOf bb_C_limitOf 2 (some .int) ({ frames := 0, cells := 0, slots := 0, locals := 0 } : Room) z D ac sa P [.ref h0, .int p1] (fun v P' => v = some (.int (su_lim p1 lm)) ∧ P' = P) := by
  refine cx_ofM (by decide) (Nat.le_of_ble_eq_true rfl) (fun p e s m below meth c ls hx hb hr hml hg hown hlocks hin hK hw hl => ?_)
  have hl : lv_has ls 2 [(0, .ref h0), (1, .int p1)] := hl
  have hown : s.vm.findClass cn_C = some m.cls := hown
  refine lv_iload_n hx hb dd_C_limitOf_0 rfl (lv_at hl 1 rfl) ?_
  refine lv_if_lt (tgt := 22) hx hb dd_C_limitOf_1 (by decide) (fun c1 => ?_) (fun c1 => ?_)
  · skip
    refine lv_iconst (v := 0) hx hb dd_C_limitOf_22 (by decide) ?_
    refine cx_iret (v := (0 : Int32)) hx hb hr rfl hlocks hw dd_C_limitOf_23 (by decide) (by decide) ?_
    exact ⟨by simp only [su_lim, if_pos c1], rfl⟩
  · skip
    refine lv_iload_n hx hb dd_C_limitOf_4 rfl (lv_at hl 1 rfl) ?_
    refine lv_aload_n hx hb dd_C_limitOf_5 rfl (lv_at hl 0 rfl) ?_
    refine pm_get (ci := 0) (C := cn_C) (T := cf_C) (N := 8) (v := .ref aL) hx hb hg gu_C hown hK.2.1 hw f0 rfl 2 (by decide) (hg _ gf_C_21) (fun _ h9 => h9) rfl dd_C_limitOf_6 ?_
    refine pm_alen (v := 20) hx hb hK.2.1 hw 0 f1 rfl rfl dd_C_limitOf_9 ?_
    refine lv_icmp_ge (tgt := 22) hx hb dd_C_limitOf_10 (by decide) (fun c2 => ?_) (fun c2 => ?_)
    · skip
      refine lv_iconst (v := 0) hx hb dd_C_limitOf_22 (by decide) ?_
      refine cx_iret (v := (0 : Int32)) hx hb hr rfl hlocks hw dd_C_limitOf_23 (by decide) (by decide) ?_
      exact ⟨by simp only [su_lim, if_neg c1, if_pos c2], rfl⟩
    · skip
      refine lv_aload_n hx hb dd_C_limitOf_13 rfl (lv_at hl 0 rfl) ?_
      refine pm_get (ci := 0) (C := cn_C) (T := cf_C) (N := 8) (v := .ref aL) hx hb hg gu_C hown hK.2.1 hw f0 rfl 2 (by decide) (hg _ gf_C_21) (fun _ h9 => h9) rfl dd_C_limitOf_14 ?_
      refine lv_iload_n hx hb dd_C_limitOf_17 rfl (lv_at hl 1 rfl) ?_
      refine pm_iald hx hb hK.2.1 hw 0 f1 rfl (vp_in_ge (n := 20) (by decide) c1 c2) dd_C_limitOf_18 ?_
      refine lv_goto (tgt := 23) hx hb dd_C_limitOf_19 (by decide) ?_
      refine cx_iret (v := (lm p1.toNatClampNeg)) hx hb hr rfl hlocks hw dd_C_limitOf_23 (by decide) (by decide) ?_
      exact ⟨by simp only [su_lim, if_neg c1, if_neg c2], rfl⟩

set_option maxHeartbeats 4000000 in
set_option maxRecDepth 100000 in
theorem c_C_toldStop (l : Launch) (z : Nat) (D : va_G) (ac : Nat → ClassId) (sa : Nat → Nat) (P : pm_T) (p0 : Int64) (p1 : Int32)  : cx_M l yy_C_toldStop bb_C_toldStop 3 (some .int) ({ frames := 0, cells := 0, slots := 0, locals := 0 } : Room) z D ac sa P [.long p0, .int p1] (fun v P' => v = some (.int (su_told p0 p1)) ∧ P' = P) := by
  refine cx_ofM (by decide) (Nat.le_of_ble_eq_true rfl) (fun p e s m below meth c ls hx hb hr hml hg hown hlocks hin hK hw hl => ?_)
  have hl : lv_has ls 3 [(0, .long p0), (2, .int p1)] := hl
  have hown : s.vm.findClass cn_C = some m.cls := hown
  refine lv_lload_n hx hb dd_C_toldStop_0 rfl (lv_at hl 0 rfl) ?_
  refine lv_bipush (v := 6) hx hb dd_C_toldStop_1 (by decide) ?_
  refine lv_iload_n hx hb dd_C_toldStop_3 rfl (lv_at hl 1 rfl) ?_
  refine lv_imul hx hb dd_C_toldStop_4 ?_
  refine lv_lushr hx hb dd_C_toldStop_5 rfl ?_
  refine lv_ldc2 (v := (63)) hx hb hown (hg _ gq_C_290) dd_C_toldStop_6 ?_
  refine lv_land hx hb dd_C_toldStop_9 ?_
  refine lv_l2i hx hb dd_C_toldStop_10 rfl ?_
  refine cx_iret (v := ((((p0).toUInt64 >>> ((((6 : Int32) * p1)).toInt64.toUInt64 &&& Int64.toUInt64 63)).toInt64 &&& (63 : Int64))).toInt32) hx hb hr rfl hlocks hw dd_C_toldStop_11 (by decide) (by decide) ?_
  exact ⟨rfl, rfl⟩
