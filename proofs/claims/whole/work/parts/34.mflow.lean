def su_b (a : Int32) : Int32 := if a = 0 then 0 else 1
def su_dd (a b : Int32) : Int32 := if su_in a 0 99999 = 0 then 0 else if su_in b 0 99999 = 0 then 0 else if b < a then 0 else 1
def su_sq (f : Int32) : Int32 := if 500 ≤ f then (if 1000 ≤ f then (if 1500 ≤ f then 3 else 2) else 1) else 0
def su_wf (mv : Nat → Nat → Int32) (j : Nat) (a b : Int32) : Nat → Int32
  | 0 => 1
  | k + 1 => if mv 7 (3 * j + k) < a then su_wf mv j a b k else if b < mv 6 (3 * j + k) then su_wf mv j a b k else 0
def su_mus (mv : Nat → Nat → Int32) (al : Int32) (j d w : Nat) : Int32 := if mv 4 j = 2 then 0 else if mv 3 j = 1 ∧ al = 0 then 0 else if mv 3 j = 2 ∧ ¬ mv 8 (12 * j + d % 360 / 30) = 0 then 0 else if ∃ k, k < w ∧ ¬ su_in (nI d) (mv 6 (3 * j + k)) (mv 7 (3 * j + k)) = 0 then 0 else 1
def su_mfl (mv : Nat → Nat → Int32) (i : Nat) (p w : Int32) : Int32 := (if w = 0 then su_mup mv i p else su_mdn mv i p) / su_mg (su_mup mv i p).toNatClampNeg (su_mdn mv i p) (su_mup mv i p)
theorem su_mdn_nz {mv : Nat → Nat → Int32} {i : Nat} {p : Int32} (h : ¬ su_mct mv i p = 0) : ¬ su_mdn mv i p = 0 := by
  unfold su_mct at h
  unfold su_mdn
  by_cases h1 : p < mv 12 i
  · rw [if_pos h1]
    rw [if_neg (Int32.not_le.mpr h1)] at h
    intro h2
    have h3 : mv 12 i = mv 14 i := by
      have h4 : mv 12 i - mv 14 i + mv 14 i = 0 + mv 14 i := by rw [h2]
      rw [Int32.sub_add_cancel, Int32.zero_add] at h4
      exact h4
    rw [if_pos (by rw [h3]; exact Int32.le_refl _)] at h
    exact h rfl
  · rw [if_neg h1]; decide
theorem su_b1' {a : Int32} (h : ¬ su_b a = 0) : ¬ a = 0 := fun h1 => h (by rw [su_b, if_pos h1])
theorem su_tq {a b : Int} (hb : 0 < b) : ∃ q r : Int, a.tdiv b = q ∧ a.tmod b = r ∧ a = b * q + r ∧ r < b ∧ (0 ≤ a → 0 ≤ q ∧ q ≤ a ∧ 0 ≤ r ∧ 0 ≤ b * q) ∧ (a < 0 → q ≤ 0 ∧ a ≤ q ∧ r ≤ 0 ∧ b * q ≤ 0) := by
  refine ⟨_, _, rfl, rfl, ?_, Int.tmod_lt_of_pos a hb, fun h => ?_, fun h => ?_⟩
  · have := Int.tmod_def a b
    omega
  · have h1 : 0 ≤ a.tdiv b := Int.tdiv_nonneg h (by omega)
    have h2 : 0 ≤ a.tmod b := Int.tmod_nonneg b h
    have h3 := Int.tmod_def a b
    have h4 : 1 * a.tdiv b ≤ b * a.tdiv b := Int.mul_le_mul_of_nonneg_right (by omega) h1
    exact ⟨h1, by omega, h2, by omega⟩
  · have h1 : 0 ≤ (-a).tdiv b := Int.tdiv_nonneg (by omega) (by omega)
    have h2 : 0 ≤ (-a).tmod b := Int.tmod_nonneg b (by omega)
    have h3 := Int.tmod_def (-a) b
    have h4 : 1 * (-a).tdiv b ≤ b * (-a).tdiv b := Int.mul_le_mul_of_nonneg_right (by omega) h1
    rw [Int.neg_tmod] at h2 h3
    rw [Int.neg_tdiv] at h1 h3 h4
    simp only [Int.mul_neg, Int.one_mul] at h3 h4
    exact ⟨by omega, by omega, by omega, by omega⟩
theorem su_ti_rem {a b : Int32} (hb : 0 < b.toInt) : (a / b).toInt = a.toInt.tdiv b.toInt ∧ (a - a / b * b).toInt = a.toInt.tmod b.toInt := by
  obtain ⟨q, r, e1, e2, e3, h1, h2, h3⟩ := su_tq (a := a.toInt) hb
  have l1 := Int32.le_toInt a
  have l2 := Int32.toInt_lt a
  have l3 := Int32.toInt_lt b
  have hq : (a / b).toInt = q := by
    rw [Int32.toInt_div, e1]
    rcases Int.lt_or_le a.toInt 0 with h4 | h4
    · have := h3 h4; exact su_bm (by omega) (by omega)
    · have := h2 h4; exact su_bm (by omega) (by omega)
  have hm : (a / b * b).toInt = b.toInt * q := by
    rw [Int32.toInt_mul, hq, Int.mul_comm q b.toInt]
    generalize b.toInt * q = w at e3 h2 h3
    rcases Int.lt_or_le a.toInt 0 with h4 | h4
    · have := h3 h4; exact su_bm (by omega) (by omega)
    · have := h2 h4; exact su_bm (by omega) (by omega)
  refine ⟨by rw [hq, e1], ?_⟩
  rw [Int32.toInt_sub, hm, e2]
  generalize b.toInt * q = w at e3 h2 h3
  have e4 : a.toInt - w = r := by omega
  rw [e4]
  rcases Int.lt_or_le a.toInt 0 with h4 | h4
  · have := h3 h4; exact su_bm (by omega) (by omega)
  · have := h2 h4; exact su_bm (by omega) (by omega)
theorem su_c0 {b : Int32} (h : b.toNatClampNeg ≤ 0) : b ≤ 0 := by
  have h1 : b.toInt.toNat ≤ 0 := h
  rw [Int32.le_iff_toInt_le]
  have h0 : (0 : Int32).toInt = 0 := by decide
  omega
theorem su_rem_lt {a b : Int32} {n : Nat} (hb : ¬ b ≤ 0) (h : b.toNatClampNeg ≤ n + 1) : (a - a / b * b).toNatClampNeg ≤ n := by
  have h0 : (0 : Int32).toInt = 0 := by decide
  rw [Int32.le_iff_toInt_le, h0] at hb
  have h1 := (su_ti_rem (a := a) (b := b) (by omega)).2
  have h2 : a.toInt.tmod b.toInt < b.toInt := Int.tmod_lt_of_pos _ (by omega)
  have h3 : b.toInt.toNat ≤ n + 1 := h
  show (a - a / b * b).toInt.toNat ≤ n
  omega

set_option maxHeartbeats 4000000 in
set_option maxRecDepth 100000 in
theorem c_M_flowA (l : Launch) (z : Nat) (D : va_G) (ac : Nat → ClassId) (sa : Nat → Nat) (P : pm_T) (h0 : Nat) (ma : Nat → Nat) (mv : Nat → Nat → Int32) (th al so : Int32) (n t : Nat) (hn40 : n ≤ 40) (ht100 : t ≤ 100) (p1 p2 p3 : Int32) (hA : su_in p1 0 (nI n - 1) = 0) (mw : md_W P ac h0 ma mv th (nI n) al (nI t) so)  : cx_M l yy_M_flow bb_M_flow 8 (some .int) ({ frames := 3, cells := 0, slots := 0, locals := 90 } : Room) z D ac sa P [.ref h0, .int p1, .int p2, .int p3] (fun v P' => v = some (.int 0) ∧ md_W P' ac h0 ma mv 1 (nI n) al (nI t) so ∧ md_F P P' h0 ma) := by
  refine cx_ofM (by decide) (Nat.le_of_ble_eq_true rfl) (fun p e s m below meth c ls hx hb hr hml hg hown hlocks hin hK hw hl => ?_)
  have hl : lv_has ls 8 [(0, .ref h0), (1, .int p1), (2, .int p2), (3, .int p3)] := hl
  have hown : s.vm.findClass cn_M = some m.cls := hown
  refine lv_aload_n hx hb dd_M_flow_0 rfl (lv_at hl 0 rfl) ?_
  refine lv_iload_n hx hb dd_M_flow_1 rfl (lv_at hl 1 rfl) ?_
  refine cx_after (cx_rV (n := 1) (As := [.int p1]) (rest := []) ⟨hx, hb, hml, hown, hg⟩ (c_M_isHydrant l z D ac sa P h0 ma mv th (nI n) al (nI t) so p1 mw) (cx_gv gm_M_95 gi_M_isHydrant gs_M_isHydrant gn_M gc_M_isHydrant) (by decide +kernel) ⟨by decide, by decide⟩ hK hw mw.1 rfl rfl hl.1 rfl (Nat.le_of_ble_eq_true rfl) dd_M_flow_2 ⟨by decide, by decide⟩) hw (fun v9 P9 H locs hp hw => ?_)
  obtain ⟨rfl, e9⟩ := hp
  rw [e9] at hw
  clear e9 P9
  refine W.eq (g2 := F0 m 5 ls [.int (su_in p1 0 ((nI n) - 1))]) rfl ?_
  refine W.eq (g2 := F0 m 5 ls [.int (0 : Int32)]) (by rw [show (su_in p1 0 ((nI n) - 1)) = (0 : Int32) from hA]) ?_
  refine lv_if_eq (tgt := 16) hx hb dd_M_flow_5 (by decide) (fun c31 => ?_) (fun c31 => absurd (by decide) c31)
  refine lv_iconst (v := (-1)) hx hb dd_M_flow_16 (by decide) ?_
  refine lv_istore (lv' := [(4, .int (-1 : Int32)), (0, .ref h0), (1, .int p1), (2, .int p2), (3, .int p3)]) hx hb dd_M_flow_17 hl (by decide) rfl (fun ls hl => ?_)
  refine lv_aload_n hx hb dd_M_flow_19 rfl (lv_at hl 1 rfl) ?_
  refine lv_aload_n hx hb dd_M_flow_20 rfl (lv_at hl 1 rfl) ?_
  refine lv_iload_n hx hb dd_M_flow_21 rfl (lv_at hl 2 rfl) ?_
  refine cx_after (cx_rV (n := 1) (As := [.int p1]) (rest := [.ref h0]) ⟨hx, hb, hml, hown, hg⟩ (c_M_isHydrant l z D ac sa P h0 ma mv th (nI n) al (nI t) so p1 mw) (cx_gv gm_M_95 gi_M_isHydrant gs_M_isHydrant gn_M gc_M_isHydrant) (by decide +kernel) ⟨by decide, by decide⟩ hK hw mw.1 rfl rfl hl.1 rfl (Nat.le_of_ble_eq_true rfl) dd_M_flow_22 ⟨by decide, by decide⟩) hw (fun v9 P9 H locs hp hw => ?_)
  obtain ⟨rfl, e9⟩ := hp
  rw [e9] at hw
  clear e9 P9
  refine W.eq (g2 := F0 m 25 ls [.int (su_in p1 0 ((nI n) - 1)), .ref h0]) rfl ?_
  refine W.eq (g2 := F0 m 25 ls [.int (0 : Int32), .ref h0]) (by rw [show (su_in p1 0 ((nI n) - 1)) = (0 : Int32) from hA]) ?_
  refine lv_if_eq (tgt := 41) hx hb dd_M_flow_25 (by decide) (fun c32 => ?_) (fun c32 => absurd (by decide) c32)
  refine lv_iconst (v := 0) hx hb dd_M_flow_41 (by decide) ?_
  refine lv_iload_n hx hb dd_M_flow_42 rfl (lv_at hl 3 rfl) ?_
  refine cx_after (cx_rS (n := 1) (As := [.int p2]) (rest := [.int (0 : Int32), .ref h0]) ⟨hx, hb, hml, hown, hg⟩ (c_M_isPressure l z D ac sa P p2) (cx_gs gm_M_101 gt_M_isPressure gn_M gc_M_isPressure) (by decide +kernel) ⟨by decide, by decide⟩ hK hw rfl hl.1 rfl (Nat.le_of_ble_eq_true rfl) dd_M_flow_43 ⟨by decide, by decide⟩) hw (fun v9 P9 H locs hp hw => ?_)
  obtain ⟨rfl, e9⟩ := hp
  rw [e9] at hw
  clear e9 P9
  refine W.eq (g2 := F0 m 46 ls [.int (su_in p2 0 2000), .int (0 : Int32), .ref h0]) rfl ?_
  refine lv_iload hx hb dd_M_flow_46 (lv_at hl 0 rfl) ?_
  refine lv_if_lt (tgt := 55) hx hb dd_M_flow_48 (by decide) (fun c33 => ?_) (fun c33 => absurd (by decide) c33)
  refine lv_iconst (v := 0) hx hb dd_M_flow_55 (by decide) ?_
  refine lv_iload hx hb dd_M_flow_56 (lv_at hl 0 rfl) ?_
  refine lv_if_lt (tgt := 75) hx hb dd_M_flow_58 (by decide) (fun c34 => ?_) (fun c34 => absurd (by decide) c34)
  refine lv_iconst (v := 0) hx hb dd_M_flow_75 (by decide) ?_
  refine cx_after (cx_rV (n := 4) (As := [.int (0 : Int32), .int (su_in p2 0 2000), .int (0 : Int32), .int (0 : Int32)]) (rest := []) ⟨hx, hb, hml, hown, hg⟩ (c_M_goes l z D ac sa P h0 ma mv th (nI n) al (nI t) so (0 : Int32) (su_in p2 0 2000) (0 : Int32) (0 : Int32) mw) (cx_gv gm_M_83 gi_M_goes gs_M_goes gn_M gc_M_goes) (by decide +kernel) ⟨by decide, by decide⟩ hK hw mw.1 rfl rfl hl.1 rfl (Nat.le_of_ble_eq_true rfl) dd_M_flow_76 ⟨by decide, by decide⟩) hw (fun v9 P9 H locs hp hw => ?_)
  obtain ⟨rfl, e9⟩ := hp
  rw [e9] at hw
  clear e9 P9
  refine W.eq (g2 := F0 m 79 ls [.int (if (su_gs (0 : Int32) (su_in p2 0 2000) (0 : Int32) (0 : Int32)) = 0 then 1 else 0)]) rfl ?_
  obtain ⟨P35, eP35⟩ : ∃ pmv : pm_T, pmv = pm_up P h0 (md_o ma (su_gs (0 : Int32) (su_in p2 0 2000) (0 : Int32) (0 : Int32)) (nI n) al (nI t) so) := ⟨_, rfl⟩
  have hw : pm_W z D cl_w (pm_up P h0 (md_o ma (su_gs (0 : Int32) (su_in p2 0 2000) (0 : Int32) (0 : Int32)) (nI n) al (nI t) so)) s.heap H _ := hw
  rw [← eP35] at hw
  have mwP35 : md_W P35 ac h0 ma mv (su_gs (0 : Int32) (su_in p2 0 2000) (0 : Int32) (0 : Int32)) (nI n) al (nI t) so := by rw [eP35]; exact md_W.obj mw
  have mfP35 : md_F P P35 h0 ma := by rw [eP35]; exact md_F.obj md_F.rf
  refine W.eq (g2 := F0 m 79 ls [.int (0 : Int32)]) (by rw [show (if (su_gs (0 : Int32) (su_in p2 0 2000) (0 : Int32) (0 : Int32)) = 0 then 1 else 0) = (0 : Int32) from if_neg (fun h8 => (su_gs0 h8).1 rfl)]) ?_
  refine lv_if_ne (tgt := 84) hx hb dd_M_flow_79 (by decide) (fun c36 => absurd (by decide) c36) (fun c36 => ?_)
  refine lv_iconst (v := 0) hx hb dd_M_flow_82 (by decide) ?_
  refine cx_iret (v := (0 : Int32)) hx hb hr rfl hlocks hw dd_M_flow_83 (by decide) (by decide) ?_
  exact ⟨rfl, by have h7 := mwP35; rw [show (su_gs (0 : Int32) (su_in p2 0 2000) (0 : Int32) (0 : Int32)) = 1 from if_pos rfl] at h7; exact h7, mfP35⟩

set_option maxHeartbeats 4000000 in
set_option maxRecDepth 100000 in
theorem c_M_flowB (l : Launch) (z : Nat) (D : va_G) (ac : Nat → ClassId) (sa : Nat → Nat) (P : pm_T) (h0 : Nat) (ma : Nat → Nat) (mv : Nat → Nat → Int32) (th al so : Int32) (n t : Nat) (hn40 : n ≤ 40) (ht100 : t ≤ 100) (j : Nat) (hj : j < n) (p2 p3 : Int32) (hq : su_cm (mv 10) (mv 11) (nI j) t = none) (mw : md_W P ac h0 ma mv th (nI n) al (nI t) so)  : cx_M l yy_M_flow bb_M_flow 8 (some .int) ({ frames := 3, cells := 0, slots := 0, locals := 90 } : Room) z D ac sa P [.ref h0, .int (nI j), .int p2, .int p3] (fun v P' => v = some (.int 0) ∧ md_W P' ac h0 ma mv (su_gs (su_b (su_in p3 0 1)) (su_in p2 0 2000) (0 : Int32) (0 : Int32)) (nI n) al (nI t) so ∧ md_F P P' h0 ma) := by
  refine cx_ofM (by decide) (Nat.le_of_ble_eq_true rfl) (fun p e s m below meth c ls hx hb hr hml hg hown hlocks hin hK hw hl => ?_)
  have hl : lv_has ls 8 [(0, .ref h0), (1, .int (nI j)), (2, .int p2), (3, .int p3)] := hl
  have hown : s.vm.findClass cn_M = some m.cls := hown
  have j42 : ∀ (H : Heap) (locs : List Loc) (ls : Array Slot), pm_W z D cl_w P s.heap H locs → lv_has ls 8 [(4, .int (-1 : Int32)), (0, .ref h0), (1, .int (nI j)), (2, .int p2), (3, .int p3)] → W p l e ({ frames := 3, cells := 0, slots := 0, locals := 90 } : Room) s m ([.ref h0, .int (nI j), .int p2, .int p3] : List Value).toArray below meth c H locs 0 0 (MQ below (cx_Q z D (fun v P' => v = some (.int 0) ∧ md_W P' ac h0 ma mv (su_gs (su_b (su_in p3 0 1)) (su_in p2 0 2000) (0 : Int32) (0 : Int32)) (nI n) al (nI t) so ∧ md_F P P' h0 ma)) ([.ref h0, .int (nI j), .int p2, .int p3] : List Value).toArray s ({ frames := 3, cells := 0, slots := 0, locals := 90 } : Room).cells ({ frames := 3, cells := 0, slots := 0, locals := 90 } : Room).slots (pm_A z)) (F0 m 42 ls [.int (su_b (su_in p3 0 1)), .ref h0]) := by
    intro H locs ls hw hl
    refine lv_iload_n hx hb dd_M_flow_42 rfl (lv_at hl 3 rfl) ?_
    refine cx_after (cx_rS (n := 1) (As := [.int p2]) (rest := [.int (su_b (su_in p3 0 1)), .ref h0]) ⟨hx, hb, hml, hown, hg⟩ (c_M_isPressure l z D ac sa P p2) (cx_gs gm_M_101 gt_M_isPressure gn_M gc_M_isPressure) (by decide +kernel) ⟨by decide, by decide⟩ hK hw rfl hl.1 rfl (Nat.le_of_ble_eq_true rfl) dd_M_flow_43 ⟨by decide, by decide⟩) hw (fun v9 P9 H locs hp hw => ?_)
    obtain ⟨rfl, e9⟩ := hp
    rw [e9] at hw
    clear e9 P9
    refine W.eq (g2 := F0 m 46 ls [.int (su_in p2 0 2000), .int (su_b (su_in p3 0 1)), .ref h0]) rfl ?_
    refine lv_iload hx hb dd_M_flow_46 (lv_at hl 0 rfl) ?_
    refine lv_if_lt (tgt := 55) hx hb dd_M_flow_48 (by decide) (fun c38 => ?_) (fun c38 => absurd (by decide) c38)
    refine lv_iconst (v := 0) hx hb dd_M_flow_55 (by decide) ?_
    refine lv_iload hx hb dd_M_flow_56 (lv_at hl 0 rfl) ?_
    refine lv_if_lt (tgt := 75) hx hb dd_M_flow_58 (by decide) (fun c39 => ?_) (fun c39 => absurd (by decide) c39)
    refine lv_iconst (v := 0) hx hb dd_M_flow_75 (by decide) ?_
    refine cx_after (cx_rV (n := 4) (As := [.int (su_b (su_in p3 0 1)), .int (su_in p2 0 2000), .int (0 : Int32), .int (0 : Int32)]) (rest := []) ⟨hx, hb, hml, hown, hg⟩ (c_M_goes l z D ac sa P h0 ma mv th (nI n) al (nI t) so (su_b (su_in p3 0 1)) (su_in p2 0 2000) (0 : Int32) (0 : Int32) mw) (cx_gv gm_M_83 gi_M_goes gs_M_goes gn_M gc_M_goes) (by decide +kernel) ⟨by decide, by decide⟩ hK hw mw.1 rfl rfl hl.1 rfl (Nat.le_of_ble_eq_true rfl) dd_M_flow_76 ⟨by decide, by decide⟩) hw (fun v9 P9 H locs hp hw => ?_)
    obtain ⟨rfl, e9⟩ := hp
    rw [e9] at hw
    clear e9 P9
    refine W.eq (g2 := F0 m 79 ls [.int (if (su_gs (su_b (su_in p3 0 1)) (su_in p2 0 2000) (0 : Int32) (0 : Int32)) = 0 then 1 else 0)]) rfl ?_
    obtain ⟨P40, eP40⟩ : ∃ pmv : pm_T, pmv = pm_up P h0 (md_o ma (su_gs (su_b (su_in p3 0 1)) (su_in p2 0 2000) (0 : Int32) (0 : Int32)) (nI n) al (nI t) so) := ⟨_, rfl⟩
    have hw : pm_W z D cl_w (pm_up P h0 (md_o ma (su_gs (su_b (su_in p3 0 1)) (su_in p2 0 2000) (0 : Int32) (0 : Int32)) (nI n) al (nI t) so)) s.heap H _ := hw
    rw [← eP40] at hw
    have mwP40 : md_W P40 ac h0 ma mv (su_gs (su_b (su_in p3 0 1)) (su_in p2 0 2000) (0 : Int32) (0 : Int32)) (nI n) al (nI t) so := by rw [eP40]; exact md_W.obj mw
    have mfP40 : md_F P P40 h0 ma := by rw [eP40]; exact md_F.obj md_F.rf
    refine W.eq (g2 := F0 m 79 ls [.int (0 : Int32)]) (by rw [show (if (su_gs (su_b (su_in p3 0 1)) (su_in p2 0 2000) (0 : Int32) (0 : Int32)) = 0 then 1 else 0) = (0 : Int32) from if_neg (fun h8 => (su_gs0 h8).2.2.1 rfl)]) ?_
    refine lv_if_ne (tgt := 84) hx hb dd_M_flow_79 (by decide) (fun c41 => absurd (by decide) c41) (fun c41 => ?_)
    refine lv_iconst (v := 0) hx hb dd_M_flow_82 (by decide) ?_
    refine cx_iret (v := (0 : Int32)) hx hb hr rfl hlocks hw dd_M_flow_83 (by decide) (by decide) ?_
    exact ⟨rfl, mwP40, mfP40⟩
  refine lv_aload_n hx hb dd_M_flow_0 rfl (lv_at hl 0 rfl) ?_
  refine lv_iload_n hx hb dd_M_flow_1 rfl (lv_at hl 1 rfl) ?_
  refine cx_after (cx_rV (n := 1) (As := [.int (nI j)]) (rest := []) ⟨hx, hb, hml, hown, hg⟩ (c_M_isHydrant l z D ac sa P h0 ma mv th (nI n) al (nI t) so (nI j) mw) (cx_gv gm_M_95 gi_M_isHydrant gs_M_isHydrant gn_M gc_M_isHydrant) (by decide +kernel) ⟨by decide, by decide⟩ hK hw mw.1 rfl rfl hl.1 rfl (Nat.le_of_ble_eq_true rfl) dd_M_flow_2 ⟨by decide, by decide⟩) hw (fun v9 P9 H locs hp hw => ?_)
  obtain ⟨rfl, e9⟩ := hp
  rw [e9] at hw
  clear e9 P9
  refine W.eq (g2 := F0 m 5 ls [.int (su_in (nI j) 0 ((nI n) - 1))]) rfl ?_
  refine W.eq (g2 := F0 m 5 ls [.int (1 : Int32)]) (by rw [show (su_in (nI j) 0 ((nI n) - 1)) = (1 : Int32) from su_hin_i hj (by omega)]) ?_
  refine lv_if_eq (tgt := 16) hx hb dd_M_flow_5 (by decide) (fun c42 => absurd c42 (by decide)) (fun c42 => ?_)
  refine lv_aload_n hx hb dd_M_flow_8 rfl (lv_at hl 0 rfl) ?_
  refine lv_iload_n hx hb dd_M_flow_9 rfl (lv_at hl 1 rfl) ?_
  refine cx_after (cx_rV (n := 1) (As := [.int (nI j)]) (rest := []) ⟨hx, hb, hml, hown, hg⟩ (c_M_counts l z D ac sa P h0 ma mv th (nI n) al (nI t) so (nI j) t ht100 rfl mw) (cx_gv gm_M_107 gi_M_counts gs_M_counts gn_M gc_M_counts) (by decide +kernel) ⟨by decide, by decide⟩ hK hw mw.1 rfl rfl hl.1 rfl (Nat.le_of_ble_eq_true rfl) dd_M_flow_10 ⟨by decide, by decide⟩) hw (fun v9 P9 H locs hp hw => ?_)
  obtain ⟨rfl, e9⟩ := hp
  rw [e9] at hw
  clear e9 P9
  refine W.eq (g2 := F0 m 13 ls [.int (su_oi (su_cm (mv 10) (mv 11) (nI j) t))]) rfl ?_
  refine W.eq (g2 := F0 m 13 ls [.int (-1 : Int32)]) (by rw [show (su_oi (su_cm (mv 10) (mv 11) (nI j) t)) = (-1 : Int32) from by rw [hq]; rfl]) ?_
  refine lv_goto (tgt := 17) hx hb dd_M_flow_13 (by decide) ?_
  refine lv_istore (lv' := [(4, .int (-1 : Int32)), (0, .ref h0), (1, .int (nI j)), (2, .int p2), (3, .int p3)]) hx hb dd_M_flow_17 hl (by decide) rfl (fun ls hl => ?_)
  refine lv_aload_n hx hb dd_M_flow_19 rfl (lv_at hl 1 rfl) ?_
  refine lv_aload_n hx hb dd_M_flow_20 rfl (lv_at hl 1 rfl) ?_
  refine lv_iload_n hx hb dd_M_flow_21 rfl (lv_at hl 2 rfl) ?_
  refine cx_after (cx_rV (n := 1) (As := [.int (nI j)]) (rest := [.ref h0]) ⟨hx, hb, hml, hown, hg⟩ (c_M_isHydrant l z D ac sa P h0 ma mv th (nI n) al (nI t) so (nI j) mw) (cx_gv gm_M_95 gi_M_isHydrant gs_M_isHydrant gn_M gc_M_isHydrant) (by decide +kernel) ⟨by decide, by decide⟩ hK hw mw.1 rfl rfl hl.1 rfl (Nat.le_of_ble_eq_true rfl) dd_M_flow_22 ⟨by decide, by decide⟩) hw (fun v9 P9 H locs hp hw => ?_)
  obtain ⟨rfl, e9⟩ := hp
  rw [e9] at hw
  clear e9 P9
  refine W.eq (g2 := F0 m 25 ls [.int (su_in (nI j) 0 ((nI n) - 1)), .ref h0]) rfl ?_
  refine W.eq (g2 := F0 m 25 ls [.int (1 : Int32), .ref h0]) (by rw [show (su_in (nI j) 0 ((nI n) - 1)) = (1 : Int32) from su_hin_i hj (by omega)]) ?_
  refine lv_if_eq (tgt := 41) hx hb dd_M_flow_25 (by decide) (fun c43 => absurd c43 (by decide)) (fun c43 => ?_)
  refine lv_iload_n hx hb dd_M_flow_28 rfl (lv_at hl 4 rfl) ?_
  refine lv_iconst (v := 0) hx hb dd_M_flow_29 (by decide) ?_
  refine lv_iconst (v := 1) hx hb dd_M_flow_30 (by decide) ?_
  refine cx_after (cx_rS (n := 3) (As := [.int p3, .int (0 : Int32), .int (1 : Int32)]) (rest := [.ref h0]) ⟨hx, hb, hml, hown, hg⟩ (c_M_in l z D ac sa P p3 (0 : Int32) (1 : Int32)) (cx_gs gm_M_72 gt_M_in gn_M gc_M_in) (by decide +kernel) ⟨by decide, by decide⟩ hK hw rfl hl.1 rfl (Nat.le_of_ble_eq_true rfl) dd_M_flow_31 ⟨by decide, by decide⟩) hw (fun v9 P9 H locs hp hw => ?_)
  obtain ⟨rfl, e9⟩ := hp
  rw [e9] at hw
  clear e9 P9
  refine W.eq (g2 := F0 m 34 ls [.int (su_in p3 (0 : Int32) (1 : Int32)), .ref h0]) rfl ?_
  refine lv_if_eq (tgt := 41) hx hb dd_M_flow_34 (by decide) (fun c44 => ?_) (fun c44 => ?_)
  · skip
    refine lv_iconst (v := 0) hx hb dd_M_flow_41 (by decide) ?_
    refine W.eq (g2 := F0 m 42 ls [.int (su_b (su_in p3 0 1)), .ref h0]) (by rw [show (su_b (su_in p3 0 1)) = (0 : Int32) from by rw [su_b, if_pos c44]]) ?_
    exact j42 _ _ ls hw (lv_sub hl [0, 1, 2, 3, 4] rfl)
  · skip
    refine lv_iconst (v := 1) hx hb dd_M_flow_37 (by decide) ?_
    refine lv_goto (tgt := 42) hx hb dd_M_flow_38 (by decide) ?_
    refine W.eq (g2 := F0 m 42 ls [.int (su_b (su_in p3 0 1)), .ref h0]) (by rw [show (su_b (su_in p3 0 1)) = (1 : Int32) from by rw [su_b, if_neg c44]]) ?_
    exact j42 _ _ ls hw (lv_sub hl [0, 1, 2, 3, 4] rfl)

set_option maxHeartbeats 4000000 in
set_option maxRecDepth 100000 in
theorem c_M_flowC (l : Launch) (z : Nat) (D : va_G) (ac : Nat → ClassId) (sa : Nat → Nat) (P : pm_T) (h0 : Nat) (ma : Nat → Nat) (mv : Nat → Nat → Int32) (th al so : Int32) (n t : Nat) (hn40 : n ≤ 40) (ht100 : t ≤ 100) (j : Nat) (hj : j < n) (i : Nat) (p2 p3 : Int32) (hq : su_cm (mv 10) (mv 11) (nI j) t = some i) (mw : md_W P ac h0 ma mv th (nI n) al (nI t) so)  : cx_M l yy_M_flow bb_M_flow 8 (some .int) ({ frames := 3, cells := 0, slots := 0, locals := 90 } : Room) z D ac sa P [.ref h0, .int (nI j), .int p2, .int p3] (fun v P' => ((su_gs (su_b (su_in p3 0 1)) (su_in p2 0 2000) 1 (su_b (su_mct mv i p2))) = 0 → v = some (.int (su_mfl mv i p2 p3)) ∧ md_W P' ac h0 ma mv (su_gs (su_b (su_in p3 0 1)) (su_in p2 0 2000) 1 (su_b (su_mct mv i p2))) (nI n) al (nI t) so) ∧ (¬ (su_gs (su_b (su_in p3 0 1)) (su_in p2 0 2000) 1 (su_b (su_mct mv i p2))) = 0 → v = some (.int 0) ∧ md_W P' ac h0 ma mv (su_gs (su_b (su_in p3 0 1)) (su_in p2 0 2000) 1 (su_b (su_mct mv i p2))) (nI n) al (nI t) so) ∧ md_F P P' h0 ma) := by
  refine cx_ofM (by decide) (Nat.le_of_ble_eq_true rfl) (fun p e s m below meth c ls hx hb hr hml hg hown hlocks hin hK hw hl => ?_)
  have hl : lv_has ls 8 [(0, .ref h0), (1, .int (nI j)), (2, .int p2), (3, .int p3)] := hl
  have hown : s.vm.findClass cn_M = some m.cls := hown
  have hi9 : i < 100 := by have := su_cm_lt hq; omega
  have j76 : ∀ (H : Heap) (locs : List Loc) (ls : Array Slot), pm_W z D cl_w P s.heap H locs → lv_has ls 8 [(4, .int (nI i)), (0, .ref h0), (1, .int (nI j)), (2, .int p2), (3, .int p3)] → W p l e ({ frames := 3, cells := 0, slots := 0, locals := 90 } : Room) s m ([.ref h0, .int (nI j), .int p2, .int p3] : List Value).toArray below meth c H locs 0 0 (MQ below (cx_Q z D (fun v P' => ((su_gs (su_b (su_in p3 0 1)) (su_in p2 0 2000) 1 (su_b (su_mct mv i p2))) = 0 → v = some (.int (su_mfl mv i p2 p3)) ∧ md_W P' ac h0 ma mv (su_gs (su_b (su_in p3 0 1)) (su_in p2 0 2000) 1 (su_b (su_mct mv i p2))) (nI n) al (nI t) so) ∧ (¬ (su_gs (su_b (su_in p3 0 1)) (su_in p2 0 2000) 1 (su_b (su_mct mv i p2))) = 0 → v = some (.int 0) ∧ md_W P' ac h0 ma mv (su_gs (su_b (su_in p3 0 1)) (su_in p2 0 2000) 1 (su_b (su_mct mv i p2))) (nI n) al (nI t) so) ∧ md_F P P' h0 ma)) ([.ref h0, .int (nI j), .int p2, .int p3] : List Value).toArray s ({ frames := 3, cells := 0, slots := 0, locals := 90 } : Room).cells ({ frames := 3, cells := 0, slots := 0, locals := 90 } : Room).slots (pm_A z)) (F0 m 76 ls [.int (su_b (su_mct mv i p2)), .int (1 : Int32), .int (su_in p2 0 2000), .int (su_b (su_in p3 0 1)), .ref h0]) := by
    intro H locs ls hw hl
    refine cx_after (cx_rV (n := 4) (As := [.int (su_b (su_in p3 0 1)), .int (su_in p2 0 2000), .int (1 : Int32), .int (su_b (su_mct mv i p2))]) (rest := []) ⟨hx, hb, hml, hown, hg⟩ (c_M_goes l z D ac sa P h0 ma mv th (nI n) al (nI t) so (su_b (su_in p3 0 1)) (su_in p2 0 2000) (1 : Int32) (su_b (su_mct mv i p2)) mw) (cx_gv gm_M_83 gi_M_goes gs_M_goes gn_M gc_M_goes) (by decide +kernel) ⟨by decide, by decide⟩ hK hw mw.1 rfl rfl hl.1 rfl (Nat.le_of_ble_eq_true rfl) dd_M_flow_76 ⟨by decide, by decide⟩) hw (fun v9 P9 H locs hp hw => ?_)
    obtain ⟨rfl, e9⟩ := hp
    rw [e9] at hw
    clear e9 P9
    refine W.eq (g2 := F0 m 79 ls [.int (if (su_gs (su_b (su_in p3 0 1)) (su_in p2 0 2000) (1 : Int32) (su_b (su_mct mv i p2))) = 0 then 1 else 0)]) rfl ?_
    obtain ⟨P41, eP41⟩ : ∃ pmv : pm_T, pmv = pm_up P h0 (md_o ma (su_gs (su_b (su_in p3 0 1)) (su_in p2 0 2000) (1 : Int32) (su_b (su_mct mv i p2))) (nI n) al (nI t) so) := ⟨_, rfl⟩
    have hw : pm_W z D cl_w (pm_up P h0 (md_o ma (su_gs (su_b (su_in p3 0 1)) (su_in p2 0 2000) (1 : Int32) (su_b (su_mct mv i p2))) (nI n) al (nI t) so)) s.heap H _ := hw
    rw [← eP41] at hw
    have mwP41 : md_W P41 ac h0 ma mv (su_gs (su_b (su_in p3 0 1)) (su_in p2 0 2000) (1 : Int32) (su_b (su_mct mv i p2))) (nI n) al (nI t) so := by rw [eP41]; exact md_W.obj mw
    have mfP41 : md_F P P41 h0 ma := by rw [eP41]; exact md_F.obj md_F.rf
    refine lv_if_ne (tgt := 84) hx hb dd_M_flow_79 (by decide) (fun c42 => ?_) (fun c42 => ?_)
    · skip
      refine lv_aload_n hx hb dd_M_flow_84 rfl (lv_at hl 1 rfl) ?_
      refine lv_iload hx hb dd_M_flow_85 (lv_at hl 0 rfl) ?_
      refine lv_iload_n hx hb dd_M_flow_87 rfl (lv_at hl 3 rfl) ?_
      refine cx_after (cx_rV (n := 2) (As := [.int (nI i), .int p2]) (rest := []) ⟨hx, hb, hml, hown, hg⟩ (c_M_down l z D ac sa P41 h0 ma mv (su_gs (su_b (su_in p3 0 1)) (su_in p2 0 2000) (1 : Int32) (su_b (su_mct mv i p2))) (nI n) al (nI t) so i p2 (by omega) mwP41) (cx_gv gm_M_114 gi_M_down gs_M_down gn_M gc_M_down) (by decide +kernel) ⟨by decide, by decide⟩ hK hw mwP41.1 rfl rfl hl.1 rfl (Nat.le_of_ble_eq_true rfl) dd_M_flow_88 ⟨by decide, by decide⟩) hw (fun v9 P9 H locs hp hw => ?_)
      obtain ⟨rfl, e9⟩ := hp
      rw [e9] at hw
      clear e9 P9
      refine W.eq (g2 := F0 m 91 ls [.int (su_mdn mv i p2)]) rfl ?_
      refine lv_topi (fun x43 ex43 => ?_)
      refine lv_istore (lv' := [(5, .int x43), (4, .int (nI i)), (0, .ref h0), (1, .int (nI j)), (2, .int p2), (3, .int p3)]) hx hb dd_M_flow_91 hl (by decide) rfl (fun ls hl => ?_)
      refine lv_aload_n hx hb dd_M_flow_93 rfl (lv_at hl 2 rfl) ?_
      refine lv_iload hx hb dd_M_flow_94 (lv_at hl 1 rfl) ?_
      refine lv_iload_n hx hb dd_M_flow_96 rfl (lv_at hl 4 rfl) ?_
      refine cx_after (cx_rV (n := 2) (As := [.int (nI i), .int p2]) (rest := []) ⟨hx, hb, hml, hown, hg⟩ (c_M_up l z D ac sa P41 h0 ma mv (su_gs (su_b (su_in p3 0 1)) (su_in p2 0 2000) (1 : Int32) (su_b (su_mct mv i p2))) (nI n) al (nI t) so i p2 (by omega) mwP41) (cx_gv gm_M_118 gi_M_up gs_M_up gn_M gc_M_up) (by decide +kernel) ⟨by decide, by decide⟩ hK hw mwP41.1 rfl rfl hl.1 rfl (Nat.le_of_ble_eq_true rfl) dd_M_flow_97 ⟨by decide, by decide⟩) hw (fun v9 P9 H locs hp hw => ?_)
      obtain ⟨rfl, e9⟩ := hp
      rw [e9] at hw
      clear e9 P9
      refine W.eq (g2 := F0 m 100 ls [.int (su_mup mv i p2)]) rfl ?_
      refine lv_topi (fun x44 ex44 => ?_)
      refine lv_istore (lv' := [(6, .int x44), (5, .int x43), (4, .int (nI i)), (0, .ref h0), (1, .int (nI j)), (2, .int p2), (3, .int p3)]) hx hb dd_M_flow_100 hl (by decide) rfl (fun ls hl => ?_)
      have hct : ¬ su_mct mv i p2 = 0 := su_b1' (su_gs0 (su_nz c42)).2.2.2
      have lp : ∀ (k : Nat) (a b : Int32) (H : Heap) (locs : List Loc) (ls : Array Slot), b.toNatClampNeg ≤ k → ¬ a = 0 → su_mg k a b = su_mg (su_mup mv i p2).toNatClampNeg (su_mdn mv i p2) (su_mup mv i p2) → pm_W z D cl_w P41 s.heap H locs → lv_has ls 8 [(5, .int a), (6, .int b), (4, .int (nI i)), (0, .ref h0), (1, .int (nI j)), (2, .int p2), (3, .int p3)] → W p l e ({ frames := 3, cells := 0, slots := 0, locals := 90 } : Room) s m ([.ref h0, .int (nI j), .int p2, .int p3] : List Value).toArray below meth c H locs 0 0 (MQ below (cx_Q z D (fun v P' => ((su_gs (su_b (su_in p3 0 1)) (su_in p2 0 2000) 1 (su_b (su_mct mv i p2))) = 0 → v = some (.int (su_mfl mv i p2 p3)) ∧ md_W P' ac h0 ma mv (su_gs (su_b (su_in p3 0 1)) (su_in p2 0 2000) 1 (su_b (su_mct mv i p2))) (nI n) al (nI t) so) ∧ (¬ (su_gs (su_b (su_in p3 0 1)) (su_in p2 0 2000) 1 (su_b (su_mct mv i p2))) = 0 → v = some (.int 0) ∧ md_W P' ac h0 ma mv (su_gs (su_b (su_in p3 0 1)) (su_in p2 0 2000) 1 (su_b (su_mct mv i p2))) (nI n) al (nI t) so) ∧ md_F P P' h0 ma)) ([.ref h0, .int (nI j), .int p2, .int p3] : List Value).toArray s ({ frames := 3, cells := 0, slots := 0, locals := 90 } : Room).cells ({ frames := 3, cells := 0, slots := 0, locals := 90 } : Room).slots (pm_A z)) (F0 m 102 ls []) := by
        intro k
        induction k with
        | zero =>
          intro a b H locs ls hbk ha hg9 hw hl
          simp only [su_mg] at hg9
          refine lv_iload hx hb dd_M_flow_102 (lv_at hl 1 rfl) ?_
          refine lv_if_le (tgt := 125) hx hb dd_M_flow_104 (by decide) (fun c45 => ?_) (fun c45 => absurd (su_c0 hbk) c45)
          refine lv_iload_n hx hb dd_M_flow_125 rfl (lv_at hl 6 rfl) ?_
          refine lv_if_ne (tgt := 139) hx hb dd_M_flow_126 (by decide) (fun c46 => ?_) (fun c46 => ?_)
          · skip
            refine lv_aload_n hx hb dd_M_flow_139 rfl (lv_at hl 3 rfl) ?_
            refine lv_iload hx hb dd_M_flow_140 (lv_at hl 2 rfl) ?_
            refine lv_iload_n hx hb dd_M_flow_142 rfl (lv_at hl 5 rfl) ?_
            refine cx_after (cx_rV (n := 2) (As := [.int (nI i), .int p2]) (rest := []) ⟨hx, hb, hml, hown, hg⟩ (c_M_down l z D ac sa P41 h0 ma mv (su_gs (su_b (su_in p3 0 1)) (su_in p2 0 2000) (1 : Int32) (su_b (su_mct mv i p2))) (nI n) al (nI t) so i p2 (by omega) mwP41) (cx_gv gm_M_114 gi_M_down gs_M_down gn_M gc_M_down) (by decide +kernel) ⟨by decide, by decide⟩ hK hw mwP41.1 rfl rfl hl.1 rfl (Nat.le_of_ble_eq_true rfl) dd_M_flow_143 ⟨by decide, by decide⟩) hw (fun v9 P9 H locs hp hw => ?_)
            obtain ⟨rfl, e9⟩ := hp
            rw [e9] at hw
            clear e9 P9
            refine W.eq (g2 := F0 m 146 ls [.int (su_mdn mv i p2)]) rfl ?_
            refine lv_iload hx hb dd_M_flow_146 (lv_at hl 0 rfl) ?_
            refine lv_idiv hx hb dd_M_flow_148 ha ?_
            refine cx_iret (v := ((su_mdn mv i p2) / a)) hx hb hr rfl hlocks hw dd_M_flow_149 (by decide) (by decide) ?_
            exact ⟨fun _ => ⟨by rw [su_mfl, ← hg9]; simp only [if_neg c46], mwP41⟩, fun h8 => absurd (su_nz c42) h8, mfP41⟩
          · skip
            refine lv_aload_n hx hb dd_M_flow_129 rfl (lv_at hl 3 rfl) ?_
            refine lv_iload hx hb dd_M_flow_130 (lv_at hl 2 rfl) ?_
            refine lv_iload_n hx hb dd_M_flow_132 rfl (lv_at hl 5 rfl) ?_
            refine cx_after (cx_rV (n := 2) (As := [.int (nI i), .int p2]) (rest := []) ⟨hx, hb, hml, hown, hg⟩ (c_M_up l z D ac sa P41 h0 ma mv (su_gs (su_b (su_in p3 0 1)) (su_in p2 0 2000) (1 : Int32) (su_b (su_mct mv i p2))) (nI n) al (nI t) so i p2 (by omega) mwP41) (cx_gv gm_M_118 gi_M_up gs_M_up gn_M gc_M_up) (by decide +kernel) ⟨by decide, by decide⟩ hK hw mwP41.1 rfl rfl hl.1 rfl (Nat.le_of_ble_eq_true rfl) dd_M_flow_133 ⟨by decide, by decide⟩) hw (fun v9 P9 H locs hp hw => ?_)
            obtain ⟨rfl, e9⟩ := hp
            rw [e9] at hw
            clear e9 P9
            refine W.eq (g2 := F0 m 136 ls [.int (su_mup mv i p2)]) rfl ?_
            refine lv_goto (tgt := 146) hx hb dd_M_flow_136 (by decide) ?_
            refine lv_iload hx hb dd_M_flow_146 (lv_at hl 0 rfl) ?_
            refine lv_idiv hx hb dd_M_flow_148 ha ?_
            refine cx_iret (v := ((su_mup mv i p2) / a)) hx hb hr rfl hlocks hw dd_M_flow_149 (by decide) (by decide) ?_
            exact ⟨fun _ => ⟨by rw [su_mfl, ← hg9]; simp only [if_pos c46], mwP41⟩, fun h8 => absurd (su_nz c42) h8, mfP41⟩
        | succ k ih =>
          intro a b H locs ls hbk ha hg9 hw hl
          by_cases hb0 : b ≤ 0
          · rw [su_mg, if_pos hb0] at hg9
            refine lv_iload hx hb dd_M_flow_102 (lv_at hl 1 rfl) ?_
            refine lv_if_le (tgt := 125) hx hb dd_M_flow_104 (by decide) (fun c47 => ?_) (fun c47 => absurd hb0 c47)
            refine lv_iload_n hx hb dd_M_flow_125 rfl (lv_at hl 6 rfl) ?_
            refine lv_if_ne (tgt := 139) hx hb dd_M_flow_126 (by decide) (fun c48 => ?_) (fun c48 => ?_)
            · skip
              refine lv_aload_n hx hb dd_M_flow_139 rfl (lv_at hl 3 rfl) ?_
              refine lv_iload hx hb dd_M_flow_140 (lv_at hl 2 rfl) ?_
              refine lv_iload_n hx hb dd_M_flow_142 rfl (lv_at hl 5 rfl) ?_
              refine cx_after (cx_rV (n := 2) (As := [.int (nI i), .int p2]) (rest := []) ⟨hx, hb, hml, hown, hg⟩ (c_M_down l z D ac sa P41 h0 ma mv (su_gs (su_b (su_in p3 0 1)) (su_in p2 0 2000) (1 : Int32) (su_b (su_mct mv i p2))) (nI n) al (nI t) so i p2 (by omega) mwP41) (cx_gv gm_M_114 gi_M_down gs_M_down gn_M gc_M_down) (by decide +kernel) ⟨by decide, by decide⟩ hK hw mwP41.1 rfl rfl hl.1 rfl (Nat.le_of_ble_eq_true rfl) dd_M_flow_143 ⟨by decide, by decide⟩) hw (fun v9 P9 H locs hp hw => ?_)
              obtain ⟨rfl, e9⟩ := hp
              rw [e9] at hw
              clear e9 P9
              refine W.eq (g2 := F0 m 146 ls [.int (su_mdn mv i p2)]) rfl ?_
              refine lv_iload hx hb dd_M_flow_146 (lv_at hl 0 rfl) ?_
              refine lv_idiv hx hb dd_M_flow_148 ha ?_
              refine cx_iret (v := ((su_mdn mv i p2) / a)) hx hb hr rfl hlocks hw dd_M_flow_149 (by decide) (by decide) ?_
              exact ⟨fun _ => ⟨by rw [su_mfl, ← hg9]; simp only [if_neg c48], mwP41⟩, fun h8 => absurd (su_nz c42) h8, mfP41⟩
            · skip
              refine lv_aload_n hx hb dd_M_flow_129 rfl (lv_at hl 3 rfl) ?_
              refine lv_iload hx hb dd_M_flow_130 (lv_at hl 2 rfl) ?_
              refine lv_iload_n hx hb dd_M_flow_132 rfl (lv_at hl 5 rfl) ?_
              refine cx_after (cx_rV (n := 2) (As := [.int (nI i), .int p2]) (rest := []) ⟨hx, hb, hml, hown, hg⟩ (c_M_up l z D ac sa P41 h0 ma mv (su_gs (su_b (su_in p3 0 1)) (su_in p2 0 2000) (1 : Int32) (su_b (su_mct mv i p2))) (nI n) al (nI t) so i p2 (by omega) mwP41) (cx_gv gm_M_118 gi_M_up gs_M_up gn_M gc_M_up) (by decide +kernel) ⟨by decide, by decide⟩ hK hw mwP41.1 rfl rfl hl.1 rfl (Nat.le_of_ble_eq_true rfl) dd_M_flow_133 ⟨by decide, by decide⟩) hw (fun v9 P9 H locs hp hw => ?_)
              obtain ⟨rfl, e9⟩ := hp
              rw [e9] at hw
              clear e9 P9
              refine W.eq (g2 := F0 m 136 ls [.int (su_mup mv i p2)]) rfl ?_
              refine lv_goto (tgt := 146) hx hb dd_M_flow_136 (by decide) ?_
              refine lv_iload hx hb dd_M_flow_146 (lv_at hl 0 rfl) ?_
              refine lv_idiv hx hb dd_M_flow_148 ha ?_
              refine cx_iret (v := ((su_mup mv i p2) / a)) hx hb hr rfl hlocks hw dd_M_flow_149 (by decide) (by decide) ?_
              exact ⟨fun _ => ⟨by rw [su_mfl, ← hg9]; simp only [if_pos c48], mwP41⟩, fun h8 => absurd (su_nz c42) h8, mfP41⟩
          · rw [su_mg, if_neg hb0] at hg9
            refine lv_iload hx hb dd_M_flow_102 (lv_at hl 1 rfl) ?_
            refine lv_if_le (tgt := 125) hx hb dd_M_flow_104 (by decide) (fun c49 => absurd c49 hb0) (fun c49 => ?_)
            refine lv_iload hx hb dd_M_flow_107 (lv_at hl 0 rfl) ?_
            refine lv_iload hx hb dd_M_flow_109 (lv_at hl 1 rfl) ?_
            refine lv_irem hx hb dd_M_flow_111 (fun h => hb0 (by rw [h]; decide)) ?_
            refine lv_topi (fun x50 ex50 => ?_)
            refine lv_istore (lv' := [(7, .int x50), (5, .int a), (6, .int b), (4, .int (nI i)), (0, .ref h0), (1, .int (nI j)), (2, .int p2), (3, .int p3)]) hx hb dd_M_flow_112 hl (by decide) rfl (fun ls hl => ?_)
            refine lv_iload hx hb dd_M_flow_114 (lv_at hl 2 rfl) ?_
            refine lv_istore (lv' := [(5, .int b), (7, .int x50), (6, .int b), (4, .int (nI i)), (0, .ref h0), (1, .int (nI j)), (2, .int p2), (3, .int p3)]) hx hb dd_M_flow_116 hl (by decide) rfl (fun ls hl => ?_)
            refine lv_iload hx hb dd_M_flow_118 (lv_at hl 1 rfl) ?_
            refine lv_istore (lv' := [(6, .int x50), (5, .int b), (7, .int x50), (4, .int (nI i)), (0, .ref h0), (1, .int (nI j)), (2, .int p2), (3, .int p3)]) hx hb dd_M_flow_120 hl (by decide) rfl (fun ls hl => ?_)
            refine lv_goto (tgt := 102) hx hb dd_M_flow_122 (by decide) ?_
            exact ih b x50 H _ ls (by rw [ex50]; exact su_rem_lt hb0 hbk) (fun h => hb0 (by rw [h]; decide)) (by rw [ex50]; exact hg9) hw (lv_sub hl [1, 0, 3, 4, 5, 6, 7] rfl)
      exact lp _ x43 x44 _ _ ls (Nat.le_refl _) (by rw [ex43]; exact su_mdn_nz hct) (by rw [ex43, ex44]) hw (lv_sub hl [1, 0, 2, 3, 4, 5, 6] rfl)
    · skip
      refine lv_iconst (v := 0) hx hb dd_M_flow_82 (by decide) ?_
      refine cx_iret (v := (0 : Int32)) hx hb hr rfl hlocks hw dd_M_flow_83 (by decide) (by decide) ?_
      exact ⟨fun h8 => absurd h8 (su_iz c42), fun _ => ⟨rfl, mwP41⟩, mfP41⟩
  have j42 : ∀ (H : Heap) (locs : List Loc) (ls : Array Slot), pm_W z D cl_w P s.heap H locs → lv_has ls 8 [(4, .int (nI i)), (0, .ref h0), (1, .int (nI j)), (2, .int p2), (3, .int p3)] → W p l e ({ frames := 3, cells := 0, slots := 0, locals := 90 } : Room) s m ([.ref h0, .int (nI j), .int p2, .int p3] : List Value).toArray below meth c H locs 0 0 (MQ below (cx_Q z D (fun v P' => ((su_gs (su_b (su_in p3 0 1)) (su_in p2 0 2000) 1 (su_b (su_mct mv i p2))) = 0 → v = some (.int (su_mfl mv i p2 p3)) ∧ md_W P' ac h0 ma mv (su_gs (su_b (su_in p3 0 1)) (su_in p2 0 2000) 1 (su_b (su_mct mv i p2))) (nI n) al (nI t) so) ∧ (¬ (su_gs (su_b (su_in p3 0 1)) (su_in p2 0 2000) 1 (su_b (su_mct mv i p2))) = 0 → v = some (.int 0) ∧ md_W P' ac h0 ma mv (su_gs (su_b (su_in p3 0 1)) (su_in p2 0 2000) 1 (su_b (su_mct mv i p2))) (nI n) al (nI t) so) ∧ md_F P P' h0 ma)) ([.ref h0, .int (nI j), .int p2, .int p3] : List Value).toArray s ({ frames := 3, cells := 0, slots := 0, locals := 90 } : Room).cells ({ frames := 3, cells := 0, slots := 0, locals := 90 } : Room).slots (pm_A z)) (F0 m 42 ls [.int (su_b (su_in p3 0 1)), .ref h0]) := by
    intro H locs ls hw hl
    refine lv_iload_n hx hb dd_M_flow_42 rfl (lv_at hl 3 rfl) ?_
    refine cx_after (cx_rS (n := 1) (As := [.int p2]) (rest := [.int (su_b (su_in p3 0 1)), .ref h0]) ⟨hx, hb, hml, hown, hg⟩ (c_M_isPressure l z D ac sa P p2) (cx_gs gm_M_101 gt_M_isPressure gn_M gc_M_isPressure) (by decide +kernel) ⟨by decide, by decide⟩ hK hw rfl hl.1 rfl (Nat.le_of_ble_eq_true rfl) dd_M_flow_43 ⟨by decide, by decide⟩) hw (fun v9 P9 H locs hp hw => ?_)
    obtain ⟨rfl, e9⟩ := hp
    rw [e9] at hw
    clear e9 P9
    refine W.eq (g2 := F0 m 46 ls [.int (su_in p2 0 2000), .int (su_b (su_in p3 0 1)), .ref h0]) rfl ?_
    refine lv_iload hx hb dd_M_flow_46 (lv_at hl 0 rfl) ?_
    refine lv_if_lt (tgt := 55) hx hb dd_M_flow_48 (by decide) (fun c51 => absurd c51 (nI_pos (by omega))) (fun c51 => ?_)
    refine lv_iconst (v := 1) hx hb dd_M_flow_51 (by decide) ?_
    refine lv_goto (tgt := 56) hx hb dd_M_flow_52 (by decide) ?_
    refine lv_iload hx hb dd_M_flow_56 (lv_at hl 0 rfl) ?_
    refine lv_if_lt (tgt := 75) hx hb dd_M_flow_58 (by decide) (fun c52 => absurd c52 (nI_pos (by omega))) (fun c52 => ?_)
    refine lv_aload_n hx hb dd_M_flow_61 rfl (lv_at hl 1 rfl) ?_
    refine lv_iload hx hb dd_M_flow_62 (lv_at hl 0 rfl) ?_
    refine lv_iload_n hx hb dd_M_flow_64 rfl (lv_at hl 3 rfl) ?_
    refine cx_after (cx_rV (n := 2) (As := [.int (nI i), .int p2]) (rest := [.int (1 : Int32), .int (su_in p2 0 2000), .int (su_b (su_in p3 0 1)), .ref h0]) ⟨hx, hb, hml, hown, hg⟩ (c_M_canTell l z D ac sa P h0 ma mv th (nI n) al (nI t) so i p2 (by omega) mw) (cx_gv gm_M_111 gi_M_canTell gs_M_canTell gn_M gc_M_canTell) (by decide +kernel) ⟨by decide, by decide⟩ hK hw mw.1 rfl rfl hl.1 rfl (Nat.le_of_ble_eq_true rfl) dd_M_flow_65 ⟨by decide, by decide⟩) hw (fun v9 P9 H locs hp hw => ?_)
    obtain ⟨rfl, e9⟩ := hp
    rw [e9] at hw
    clear e9 P9
    refine W.eq (g2 := F0 m 68 ls [.int (su_mct mv i p2), .int (1 : Int32), .int (su_in p2 0 2000), .int (su_b (su_in p3 0 1)), .ref h0]) rfl ?_
    refine lv_if_eq (tgt := 75) hx hb dd_M_flow_68 (by decide) (fun c53 => ?_) (fun c53 => ?_)
    · skip
      refine lv_iconst (v := 0) hx hb dd_M_flow_75 (by decide) ?_
      refine W.eq (g2 := F0 m 76 ls [.int (su_b (su_mct mv i p2)), .int (1 : Int32), .int (su_in p2 0 2000), .int (su_b (su_in p3 0 1)), .ref h0]) (by rw [show (su_b (su_mct mv i p2)) = (0 : Int32) from by rw [su_b, if_pos c53]]) ?_
      exact j76 _ _ ls hw (lv_sub hl [0, 1, 2, 3, 4] rfl)
    · skip
      refine lv_iconst (v := 1) hx hb dd_M_flow_71 (by decide) ?_
      refine lv_goto (tgt := 76) hx hb dd_M_flow_72 (by decide) ?_
      refine W.eq (g2 := F0 m 76 ls [.int (su_b (su_mct mv i p2)), .int (1 : Int32), .int (su_in p2 0 2000), .int (su_b (su_in p3 0 1)), .ref h0]) (by rw [show (su_b (su_mct mv i p2)) = (1 : Int32) from by rw [su_b, if_neg c53]]) ?_
      exact j76 _ _ ls hw (lv_sub hl [0, 1, 2, 3, 4] rfl)
  refine lv_aload_n hx hb dd_M_flow_0 rfl (lv_at hl 0 rfl) ?_
  refine lv_iload_n hx hb dd_M_flow_1 rfl (lv_at hl 1 rfl) ?_
  refine cx_after (cx_rV (n := 1) (As := [.int (nI j)]) (rest := []) ⟨hx, hb, hml, hown, hg⟩ (c_M_isHydrant l z D ac sa P h0 ma mv th (nI n) al (nI t) so (nI j) mw) (cx_gv gm_M_95 gi_M_isHydrant gs_M_isHydrant gn_M gc_M_isHydrant) (by decide +kernel) ⟨by decide, by decide⟩ hK hw mw.1 rfl rfl hl.1 rfl (Nat.le_of_ble_eq_true rfl) dd_M_flow_2 ⟨by decide, by decide⟩) hw (fun v9 P9 H locs hp hw => ?_)
  obtain ⟨rfl, e9⟩ := hp
  rw [e9] at hw
  clear e9 P9
  refine W.eq (g2 := F0 m 5 ls [.int (su_in (nI j) 0 ((nI n) - 1))]) rfl ?_
  refine W.eq (g2 := F0 m 5 ls [.int (1 : Int32)]) (by rw [show (su_in (nI j) 0 ((nI n) - 1)) = (1 : Int32) from su_hin_i hj (by omega)]) ?_
  refine lv_if_eq (tgt := 16) hx hb dd_M_flow_5 (by decide) (fun c54 => absurd c54 (by decide)) (fun c54 => ?_)
  refine lv_aload_n hx hb dd_M_flow_8 rfl (lv_at hl 0 rfl) ?_
  refine lv_iload_n hx hb dd_M_flow_9 rfl (lv_at hl 1 rfl) ?_
  refine cx_after (cx_rV (n := 1) (As := [.int (nI j)]) (rest := []) ⟨hx, hb, hml, hown, hg⟩ (c_M_counts l z D ac sa P h0 ma mv th (nI n) al (nI t) so (nI j) t ht100 rfl mw) (cx_gv gm_M_107 gi_M_counts gs_M_counts gn_M gc_M_counts) (by decide +kernel) ⟨by decide, by decide⟩ hK hw mw.1 rfl rfl hl.1 rfl (Nat.le_of_ble_eq_true rfl) dd_M_flow_10 ⟨by decide, by decide⟩) hw (fun v9 P9 H locs hp hw => ?_)
  obtain ⟨rfl, e9⟩ := hp
  rw [e9] at hw
  clear e9 P9
  refine W.eq (g2 := F0 m 13 ls [.int (su_oi (su_cm (mv 10) (mv 11) (nI j) t))]) rfl ?_
  refine W.eq (g2 := F0 m 13 ls [.int (nI i)]) (by rw [show (su_oi (su_cm (mv 10) (mv 11) (nI j) t)) = (nI i) from by rw [hq]; rfl]) ?_
  refine lv_goto (tgt := 17) hx hb dd_M_flow_13 (by decide) ?_
  refine lv_istore (lv' := [(4, .int (nI i)), (0, .ref h0), (1, .int (nI j)), (2, .int p2), (3, .int p3)]) hx hb dd_M_flow_17 hl (by decide) rfl (fun ls hl => ?_)
  refine lv_aload_n hx hb dd_M_flow_19 rfl (lv_at hl 1 rfl) ?_
  refine lv_aload_n hx hb dd_M_flow_20 rfl (lv_at hl 1 rfl) ?_
  refine lv_iload_n hx hb dd_M_flow_21 rfl (lv_at hl 2 rfl) ?_
  refine cx_after (cx_rV (n := 1) (As := [.int (nI j)]) (rest := [.ref h0]) ⟨hx, hb, hml, hown, hg⟩ (c_M_isHydrant l z D ac sa P h0 ma mv th (nI n) al (nI t) so (nI j) mw) (cx_gv gm_M_95 gi_M_isHydrant gs_M_isHydrant gn_M gc_M_isHydrant) (by decide +kernel) ⟨by decide, by decide⟩ hK hw mw.1 rfl rfl hl.1 rfl (Nat.le_of_ble_eq_true rfl) dd_M_flow_22 ⟨by decide, by decide⟩) hw (fun v9 P9 H locs hp hw => ?_)
  obtain ⟨rfl, e9⟩ := hp
  rw [e9] at hw
  clear e9 P9
  refine W.eq (g2 := F0 m 25 ls [.int (su_in (nI j) 0 ((nI n) - 1)), .ref h0]) rfl ?_
  refine W.eq (g2 := F0 m 25 ls [.int (1 : Int32), .ref h0]) (by rw [show (su_in (nI j) 0 ((nI n) - 1)) = (1 : Int32) from su_hin_i hj (by omega)]) ?_
  refine lv_if_eq (tgt := 41) hx hb dd_M_flow_25 (by decide) (fun c55 => absurd c55 (by decide)) (fun c55 => ?_)
  refine lv_iload_n hx hb dd_M_flow_28 rfl (lv_at hl 4 rfl) ?_
  refine lv_iconst (v := 0) hx hb dd_M_flow_29 (by decide) ?_
  refine lv_iconst (v := 1) hx hb dd_M_flow_30 (by decide) ?_
  refine cx_after (cx_rS (n := 3) (As := [.int p3, .int (0 : Int32), .int (1 : Int32)]) (rest := [.ref h0]) ⟨hx, hb, hml, hown, hg⟩ (c_M_in l z D ac sa P p3 (0 : Int32) (1 : Int32)) (cx_gs gm_M_72 gt_M_in gn_M gc_M_in) (by decide +kernel) ⟨by decide, by decide⟩ hK hw rfl hl.1 rfl (Nat.le_of_ble_eq_true rfl) dd_M_flow_31 ⟨by decide, by decide⟩) hw (fun v9 P9 H locs hp hw => ?_)
  obtain ⟨rfl, e9⟩ := hp
  rw [e9] at hw
  clear e9 P9
  refine W.eq (g2 := F0 m 34 ls [.int (su_in p3 (0 : Int32) (1 : Int32)), .ref h0]) rfl ?_
  refine lv_if_eq (tgt := 41) hx hb dd_M_flow_34 (by decide) (fun c56 => ?_) (fun c56 => ?_)
  · skip
    refine lv_iconst (v := 0) hx hb dd_M_flow_41 (by decide) ?_
    refine W.eq (g2 := F0 m 42 ls [.int (su_b (su_in p3 0 1)), .ref h0]) (by rw [show (su_b (su_in p3 0 1)) = (0 : Int32) from by rw [su_b, if_pos c56]]) ?_
    exact j42 _ _ ls hw (lv_sub hl [0, 1, 2, 3, 4] rfl)
  · skip
    refine lv_iconst (v := 1) hx hb dd_M_flow_37 (by decide) ?_
    refine lv_goto (tgt := 42) hx hb dd_M_flow_38 (by decide) ?_
    refine W.eq (g2 := F0 m 42 ls [.int (su_b (su_in p3 0 1)), .ref h0]) (by rw [show (su_b (su_in p3 0 1)) = (1 : Int32) from by rw [su_b, if_neg c56]]) ?_
    exact j42 _ _ ls hw (lv_sub hl [0, 1, 2, 3, 4] rfl)
