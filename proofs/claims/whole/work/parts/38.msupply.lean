def su_n4 (a b c d : Int32) : Int32 := if a = 0 then 0 else if b = 0 then 0 else if c = 0 then 0 else if d = 0 then 0 else 1

set_option maxHeartbeats 4000000 in
set_option maxRecDepth 100000 in
theorem c_M_supplyA (l : Launch) (z : Nat) (D : va_G) (ac : Nat → ClassId) (sa : Nat → Nat) (P : pm_T) (h0 : Nat) (ma : Nat → Nat) (mv : Nat → Nat → Int32) (th al so : Int32) (n t : Nat) (hn40 : n ≤ 40) (ht100 : t ≤ 100) (p1 p2 p3 p4 p5 : Int32) (hA : su_n4 (su_pm p1 p2) (su_in p3 0 99999) (su_in p4 0 2000) (su_in p5 0 200000) = 0) (mw : md_W P ac h0 ma mv th (nI n) al (nI t) so)  : cx_M l yy_M_supply bb_M_supply 10 (some .int) ({ frames := 4, cells := 0, slots := 0, locals := 120 } : Room) z D ac sa P [.ref h0, .int p1, .int p2, .int p3, .int p4, .int p5] (fun v P' => v = some (.int 0) ∧ md_W P' ac h0 ma mv 1 (nI n) al (nI t) so ∧ md_F P P' h0 ma) := by
  refine cx_ofM (by decide) (Nat.le_of_ble_eq_true rfl) (fun p e s m below meth c ls hx hb hr hml hg hown hlocks hin hK hw hl => ?_)
  have hl : lv_has ls 10 [(0, .ref h0), (1, .int p1), (2, .int p2), (3, .int p3), (4, .int p4), (5, .int p5)] := hl
  have hown : s.vm.findClass cn_M = some m.cls := hown
  have j40 : ∀ (H : Heap) (locs : List Loc) (ls : Array Slot), pm_W z D cl_w P s.heap H locs → lv_has ls 10 [(0, .ref h0), (1, .int p1), (2, .int p2), (3, .int p3), (4, .int p4), (5, .int p5)] → W p l e ({ frames := 4, cells := 0, slots := 0, locals := 120 } : Room) s m ([.ref h0, .int p1, .int p2, .int p3, .int p4, .int p5] : List Value).toArray below meth c H locs 0 0 (MQ below (cx_Q z D (fun v P' => v = some (.int 0) ∧ md_W P' ac h0 ma mv 1 (nI n) al (nI t) so ∧ md_F P P' h0 ma)) ([.ref h0, .int p1, .int p2, .int p3, .int p4, .int p5] : List Value).toArray s ({ frames := 4, cells := 0, slots := 0, locals := 120 } : Room).cells ({ frames := 4, cells := 0, slots := 0, locals := 120 } : Room).slots (pm_A z)) (F0 m 40 ls [.int (su_n4 (su_pm p1 p2) (su_in p3 0 99999) (su_in p4 0 2000) (su_in p5 (0 : Int32) (200000 : Int32))), .ref h0]) := by
    intro H locs ls hw hl
    refine W.eq (g2 := F0 m 40 ls [.int (0 : Int32), .ref h0]) (by rw [show (su_n4 (su_pm p1 p2) (su_in p3 0 99999) (su_in p4 0 2000) (su_in p5 (0 : Int32) (200000 : Int32))) = (0 : Int32) from hA]) ?_
    refine lv_iconst (v := 1) hx hb dd_M_supply_40 (by decide) ?_
    refine lv_iconst (v := 1) hx hb dd_M_supply_41 (by decide) ?_
    refine lv_iconst (v := 1) hx hb dd_M_supply_42 (by decide) ?_
    refine cx_after (cx_rV (n := 4) (As := [.int (0 : Int32), .int (1 : Int32), .int (1 : Int32), .int (1 : Int32)]) (rest := []) ⟨hx, hb, hml, hown, hg⟩ (c_M_goes l z D ac sa P h0 ma mv th (nI n) al (nI t) so (0 : Int32) (1 : Int32) (1 : Int32) (1 : Int32) mw) (cx_gv gm_M_83 gi_M_goes gs_M_goes gn_M gc_M_goes) (by decide +kernel) ⟨by decide, by decide⟩ hK hw mw.1 rfl rfl hl.1 rfl (Nat.le_of_ble_eq_true rfl) dd_M_supply_43 ⟨by decide, by decide⟩) hw (fun v9 P9 H locs hp hw => ?_)
    obtain ⟨rfl, e9⟩ := hp
    rw [e9] at hw
    clear e9 P9
    refine W.eq (g2 := F0 m 46 ls [.int (if (su_gs (0 : Int32) (1 : Int32) (1 : Int32) (1 : Int32)) = 0 then 1 else 0)]) rfl ?_
    obtain ⟨P37, eP37⟩ : ∃ pmv : pm_T, pmv = pm_up P h0 (md_o ma (su_gs (0 : Int32) (1 : Int32) (1 : Int32) (1 : Int32)) (nI n) al (nI t) so) := ⟨_, rfl⟩
    have hw : pm_W z D cl_w (pm_up P h0 (md_o ma (su_gs (0 : Int32) (1 : Int32) (1 : Int32) (1 : Int32)) (nI n) al (nI t) so)) s.heap H _ := hw
    rw [← eP37] at hw
    have mwP37 : md_W P37 ac h0 ma mv (su_gs (0 : Int32) (1 : Int32) (1 : Int32) (1 : Int32)) (nI n) al (nI t) so := by rw [eP37]; exact md_W.obj mw
    have mfP37 : md_F P P37 h0 ma := by rw [eP37]; exact md_F.obj md_F.rf
    refine W.eq (g2 := F0 m 46 ls [.int (0 : Int32)]) (by rw [show (if (su_gs (0 : Int32) (1 : Int32) (1 : Int32) (1 : Int32)) = 0 then 1 else 0) = (0 : Int32) from if_neg (fun h8 => (su_gs0 h8).1 rfl)]) ?_
    refine lv_if_ne (tgt := 51) hx hb dd_M_supply_46 (by decide) (fun c38 => absurd (by decide) c38) (fun c38 => ?_)
    refine lv_iconst (v := 0) hx hb dd_M_supply_49 (by decide) ?_
    refine cx_iret (v := (0 : Int32)) hx hb hr rfl hlocks hw dd_M_supply_50 (by decide) (by decide) ?_
    exact ⟨rfl, by have h7 := mwP37; rw [show (su_gs (0 : Int32) (1 : Int32) (1 : Int32) (1 : Int32)) = 1 from by simp [su_gs]] at h7; exact h7, mfP37⟩
  refine lv_aload_n hx hb dd_M_supply_0 rfl (lv_at hl 0 rfl) ?_
  refine lv_iload_n hx hb dd_M_supply_1 rfl (lv_at hl 1 rfl) ?_
  refine lv_iload_n hx hb dd_M_supply_2 rfl (lv_at hl 2 rfl) ?_
  refine cx_after (cx_rS (n := 2) (As := [.int p1, .int p2]) (rest := [.ref h0]) ⟨hx, hb, hml, hown, hg⟩ (c_M_isPlace l z D ac sa P p1 p2) (cx_gs gm_M_79 gt_M_isPlace gn_M gc_M_isPlace) (by decide +kernel) ⟨by decide, by decide⟩ hK hw rfl hl.1 rfl (Nat.le_of_ble_eq_true rfl) dd_M_supply_3 ⟨by decide, by decide⟩) hw (fun v9 P9 H locs hp hw => ?_)
  obtain ⟨rfl, e9⟩ := hp
  rw [e9] at hw
  clear e9 P9
  refine W.eq (g2 := F0 m 6 ls [.int (su_pm p1 p2), .ref h0]) rfl ?_
  refine lv_if_eq (tgt := 39) hx hb dd_M_supply_6 (by decide) (fun c39 => ?_) (fun c39 => ?_)
  · skip
    refine lv_iconst (v := 0) hx hb dd_M_supply_39 (by decide) ?_
    refine W.eq (g2 := F0 m 40 ls [.int (su_n4 (su_pm p1 p2) (su_in p3 0 99999) (su_in p4 0 2000) (su_in p5 (0 : Int32) (200000 : Int32))), .ref h0]) (by rw [show (su_n4 (su_pm p1 p2) (su_in p3 0 99999) (su_in p4 0 2000) (su_in p5 (0 : Int32) (200000 : Int32))) = (0 : Int32) from by rw [su_n4, if_pos c39]]) ?_
    exact j40 _ _ ls hw (lv_sub hl [0, 1, 2, 3, 4, 5] rfl)
  · skip
    refine lv_iload_n hx hb dd_M_supply_9 rfl (lv_at hl 3 rfl) ?_
    refine cx_after (cx_rS (n := 1) (As := [.int p3]) (rest := [.ref h0]) ⟨hx, hb, hml, hown, hg⟩ (c_M_isDay l z D ac sa P p3) (cx_gs gm_M_98 gt_M_isDay gn_M gc_M_isDay) (by decide +kernel) ⟨by decide, by decide⟩ hK hw rfl hl.1 rfl (Nat.le_of_ble_eq_true rfl) dd_M_supply_10 ⟨by decide, by decide⟩) hw (fun v9 P9 H locs hp hw => ?_)
    obtain ⟨rfl, e9⟩ := hp
    rw [e9] at hw
    clear e9 P9
    refine W.eq (g2 := F0 m 13 ls [.int (su_in p3 0 99999), .ref h0]) rfl ?_
    refine lv_if_eq (tgt := 39) hx hb dd_M_supply_13 (by decide) (fun c40 => ?_) (fun c40 => ?_)
    · skip
      refine lv_iconst (v := 0) hx hb dd_M_supply_39 (by decide) ?_
      refine W.eq (g2 := F0 m 40 ls [.int (su_n4 (su_pm p1 p2) (su_in p3 0 99999) (su_in p4 0 2000) (su_in p5 (0 : Int32) (200000 : Int32))), .ref h0]) (by rw [show (su_n4 (su_pm p1 p2) (su_in p3 0 99999) (su_in p4 0 2000) (su_in p5 (0 : Int32) (200000 : Int32))) = (0 : Int32) from by rw [su_n4, if_neg c39, if_pos c40]]) ?_
      exact j40 _ _ ls hw (lv_sub hl [0, 1, 2, 3, 4, 5] rfl)
    · skip
      refine lv_iload hx hb dd_M_supply_16 (lv_at hl 4 rfl) ?_
      refine cx_after (cx_rS (n := 1) (As := [.int p4]) (rest := [.ref h0]) ⟨hx, hb, hml, hown, hg⟩ (c_M_isPressure l z D ac sa P p4) (cx_gs gm_M_101 gt_M_isPressure gn_M gc_M_isPressure) (by decide +kernel) ⟨by decide, by decide⟩ hK hw rfl hl.1 rfl (Nat.le_of_ble_eq_true rfl) dd_M_supply_18 ⟨by decide, by decide⟩) hw (fun v9 P9 H locs hp hw => ?_)
      obtain ⟨rfl, e9⟩ := hp
      rw [e9] at hw
      clear e9 P9
      refine W.eq (g2 := F0 m 21 ls [.int (su_in p4 0 2000), .ref h0]) rfl ?_
      refine lv_if_eq (tgt := 39) hx hb dd_M_supply_21 (by decide) (fun c41 => ?_) (fun c41 => ?_)
      · skip
        refine lv_iconst (v := 0) hx hb dd_M_supply_39 (by decide) ?_
        refine W.eq (g2 := F0 m 40 ls [.int (su_n4 (su_pm p1 p2) (su_in p3 0 99999) (su_in p4 0 2000) (su_in p5 (0 : Int32) (200000 : Int32))), .ref h0]) (by rw [show (su_n4 (su_pm p1 p2) (su_in p3 0 99999) (su_in p4 0 2000) (su_in p5 (0 : Int32) (200000 : Int32))) = (0 : Int32) from by rw [su_n4, if_neg c39, if_neg c40, if_pos c41]]) ?_
        exact j40 _ _ ls hw (lv_sub hl [0, 1, 2, 3, 4, 5] rfl)
      · skip
        refine lv_iload hx hb dd_M_supply_24 (lv_at hl 5 rfl) ?_
        refine lv_iconst (v := 0) hx hb dd_M_supply_26 (by decide) ?_
        refine lv_ldc (v := (200000)) hx hb hown (hg _ gq_M_134) dd_M_supply_27 ?_
        refine cx_after (cx_rS (n := 3) (As := [.int p5, .int (0 : Int32), .int (200000 : Int32)]) (rest := [.ref h0]) ⟨hx, hb, hml, hown, hg⟩ (c_M_in l z D ac sa P p5 (0 : Int32) (200000 : Int32)) (cx_gs gm_M_72 gt_M_in gn_M gc_M_in) (by decide +kernel) ⟨by decide, by decide⟩ hK hw rfl hl.1 rfl (Nat.le_of_ble_eq_true rfl) dd_M_supply_29 ⟨by decide, by decide⟩) hw (fun v9 P9 H locs hp hw => ?_)
        obtain ⟨rfl, e9⟩ := hp
        rw [e9] at hw
        clear e9 P9
        refine W.eq (g2 := F0 m 32 ls [.int (su_in p5 (0 : Int32) (200000 : Int32)), .ref h0]) rfl ?_
        refine lv_if_eq (tgt := 39) hx hb dd_M_supply_32 (by decide) (fun c42 => ?_) (fun c42 => ?_)
        · skip
          refine lv_iconst (v := 0) hx hb dd_M_supply_39 (by decide) ?_
          refine W.eq (g2 := F0 m 40 ls [.int (su_n4 (su_pm p1 p2) (su_in p3 0 99999) (su_in p4 0 2000) (su_in p5 (0 : Int32) (200000 : Int32))), .ref h0]) (by rw [show (su_n4 (su_pm p1 p2) (su_in p3 0 99999) (su_in p4 0 2000) (su_in p5 (0 : Int32) (200000 : Int32))) = (0 : Int32) from by rw [su_n4, if_neg c39, if_neg c40, if_neg c41, if_pos c42]]) ?_
          exact j40 _ _ ls hw (lv_sub hl [0, 1, 2, 3, 4, 5] rfl)
        · skip
          refine lv_iconst (v := 1) hx hb dd_M_supply_35 (by decide) ?_
          refine lv_goto (tgt := 40) hx hb dd_M_supply_36 (by decide) ?_
          refine W.eq (g2 := F0 m 40 ls [.int (su_n4 (su_pm p1 p2) (su_in p3 0 99999) (su_in p4 0 2000) (su_in p5 (0 : Int32) (200000 : Int32))), .ref h0]) (by rw [show (su_n4 (su_pm p1 p2) (su_in p3 0 99999) (su_in p4 0 2000) (su_in p5 (0 : Int32) (200000 : Int32))) = (1 : Int32) from by rw [su_n4, if_neg c39, if_neg c40, if_neg c41, if_neg c42]]) ?_
          exact j40 _ _ ls hw (lv_sub hl [0, 1, 2, 3, 4, 5] rfl)

set_option maxHeartbeats 4000000 in
set_option maxRecDepth 100000 in
theorem c_M_supplyC (l : Launch) (z : Nat) (D : va_G) (ac : Nat → ClassId) (sa : Nat → Nat) (P : pm_T) (h0 : Nat) (ma : Nat → Nat) (mv : Nat → Nat → Int32) (th al so : Int32) (n t : Nat) (hn40 : n ≤ 40) (ht100 : t ≤ 100) (p1 p2 p4 p5 : Int32) (hpl : su_pm p1 p2 = 1) (dd : Nat) (hdd : dd ≤ 99999) (hp4 : su_in p4 0 2000 = 1) (hp5 : su_in p5 0 200000 = 1) (wn : Nat → Nat) (hwn : ∀ j, j < n → wn j ≤ 3 ∧ mv 5 j = nI (wn j)) (mw : md_W P ac h0 ma mv th (nI n) al (nI t) so)  : cx_M l yy_M_supply bb_M_supply 10 (some .int) ({ frames := 4, cells := 0, slots := 0, locals := 120 } : Room) z D ac sa P [.ref h0, .int p1, .int p2, .int (nI dd), .int p4, .int p5] (fun v P' => v = some (.int (su_mal mv (fun j => su_mus mv al j dd (wn j)) n t p1 p2 p4 p5 20)) ∧ md_W P' ac h0 ma mv 0 (nI n) al (nI t) so ∧ md_F P P' h0 ma) := by
  refine cx_ofM (by decide) (Nat.le_of_ble_eq_true rfl) (fun p e s m below meth c ls hx hb hr hml hg hown hlocks hin hK hw hl => ?_)
  have hl : lv_has ls 10 [(0, .ref h0), (1, .int p1), (2, .int p2), (3, .int (nI dd)), (4, .int p4), (5, .int p5)] := hl
  have hown : s.vm.findClass cn_M = some m.cls := hown
  refine lv_aload_n hx hb dd_M_supply_0 rfl (lv_at hl 0 rfl) ?_
  refine lv_iload_n hx hb dd_M_supply_1 rfl (lv_at hl 1 rfl) ?_
  refine lv_iload_n hx hb dd_M_supply_2 rfl (lv_at hl 2 rfl) ?_
  refine cx_after (cx_rS (n := 2) (As := [.int p1, .int p2]) (rest := [.ref h0]) ⟨hx, hb, hml, hown, hg⟩ (c_M_isPlace l z D ac sa P p1 p2) (cx_gs gm_M_79 gt_M_isPlace gn_M gc_M_isPlace) (by decide +kernel) ⟨by decide, by decide⟩ hK hw rfl hl.1 rfl (Nat.le_of_ble_eq_true rfl) dd_M_supply_3 ⟨by decide, by decide⟩) hw (fun v9 P9 H locs hp hw => ?_)
  obtain ⟨rfl, e9⟩ := hp
  rw [e9] at hw
  clear e9 P9
  refine W.eq (g2 := F0 m 6 ls [.int (su_pm p1 p2), .ref h0]) rfl ?_
  refine W.eq (g2 := F0 m 6 ls [.int (1 : Int32), .ref h0]) (by rw [show (su_pm p1 p2) = (1 : Int32) from hpl]) ?_
  refine lv_if_eq (tgt := 39) hx hb dd_M_supply_6 (by decide) (fun c31 => absurd c31 (by decide)) (fun c31 => ?_)
  refine lv_iload_n hx hb dd_M_supply_9 rfl (lv_at hl 3 rfl) ?_
  refine cx_after (cx_rS (n := 1) (As := [.int (nI dd)]) (rest := [.ref h0]) ⟨hx, hb, hml, hown, hg⟩ (c_M_isDay l z D ac sa P (nI dd)) (cx_gs gm_M_98 gt_M_isDay gn_M gc_M_isDay) (by decide +kernel) ⟨by decide, by decide⟩ hK hw rfl hl.1 rfl (Nat.le_of_ble_eq_true rfl) dd_M_supply_10 ⟨by decide, by decide⟩) hw (fun v9 P9 H locs hp hw => ?_)
  obtain ⟨rfl, e9⟩ := hp
  rw [e9] at hw
  clear e9 P9
  refine W.eq (g2 := F0 m 13 ls [.int (su_in (nI dd) 0 99999), .ref h0]) rfl ?_
  refine W.eq (g2 := F0 m 13 ls [.int (1 : Int32), .ref h0]) (by rw [show (su_in (nI dd) 0 99999) = (1 : Int32) from su_in_1 (b := 99999) (by decide) hdd rfl]) ?_
  refine lv_if_eq (tgt := 39) hx hb dd_M_supply_13 (by decide) (fun c32 => absurd c32 (by decide)) (fun c32 => ?_)
  refine lv_iload hx hb dd_M_supply_16 (lv_at hl 4 rfl) ?_
  refine cx_after (cx_rS (n := 1) (As := [.int p4]) (rest := [.ref h0]) ⟨hx, hb, hml, hown, hg⟩ (c_M_isPressure l z D ac sa P p4) (cx_gs gm_M_101 gt_M_isPressure gn_M gc_M_isPressure) (by decide +kernel) ⟨by decide, by decide⟩ hK hw rfl hl.1 rfl (Nat.le_of_ble_eq_true rfl) dd_M_supply_18 ⟨by decide, by decide⟩) hw (fun v9 P9 H locs hp hw => ?_)
  obtain ⟨rfl, e9⟩ := hp
  rw [e9] at hw
  clear e9 P9
  refine W.eq (g2 := F0 m 21 ls [.int (su_in p4 0 2000), .ref h0]) rfl ?_
  refine W.eq (g2 := F0 m 21 ls [.int (1 : Int32), .ref h0]) (by rw [show (su_in p4 0 2000) = (1 : Int32) from hp4]) ?_
  refine lv_if_eq (tgt := 39) hx hb dd_M_supply_21 (by decide) (fun c33 => absurd c33 (by decide)) (fun c33 => ?_)
  refine lv_iload hx hb dd_M_supply_24 (lv_at hl 5 rfl) ?_
  refine lv_iconst (v := 0) hx hb dd_M_supply_26 (by decide) ?_
  refine lv_ldc (v := (200000)) hx hb hown (hg _ gq_M_134) dd_M_supply_27 ?_
  refine cx_after (cx_rS (n := 3) (As := [.int p5, .int (0 : Int32), .int (200000 : Int32)]) (rest := [.ref h0]) ⟨hx, hb, hml, hown, hg⟩ (c_M_in l z D ac sa P p5 (0 : Int32) (200000 : Int32)) (cx_gs gm_M_72 gt_M_in gn_M gc_M_in) (by decide +kernel) ⟨by decide, by decide⟩ hK hw rfl hl.1 rfl (Nat.le_of_ble_eq_true rfl) dd_M_supply_29 ⟨by decide, by decide⟩) hw (fun v9 P9 H locs hp hw => ?_)
  obtain ⟨rfl, e9⟩ := hp
  rw [e9] at hw
  clear e9 P9
  refine W.eq (g2 := F0 m 32 ls [.int (su_in p5 (0 : Int32) (200000 : Int32)), .ref h0]) rfl ?_
  refine W.eq (g2 := F0 m 32 ls [.int (1 : Int32), .ref h0]) (by rw [show (su_in p5 (0 : Int32) (200000 : Int32)) = (1 : Int32) from hp5]) ?_
  refine lv_if_eq (tgt := 39) hx hb dd_M_supply_32 (by decide) (fun c34 => absurd c34 (by decide)) (fun c34 => ?_)
  refine lv_iconst (v := 1) hx hb dd_M_supply_35 (by decide) ?_
  refine lv_goto (tgt := 40) hx hb dd_M_supply_36 (by decide) ?_
  refine lv_iconst (v := 1) hx hb dd_M_supply_40 (by decide) ?_
  refine lv_iconst (v := 1) hx hb dd_M_supply_41 (by decide) ?_
  refine lv_iconst (v := 1) hx hb dd_M_supply_42 (by decide) ?_
  refine cx_after (cx_rV (n := 4) (As := [.int (1 : Int32), .int (1 : Int32), .int (1 : Int32), .int (1 : Int32)]) (rest := []) ⟨hx, hb, hml, hown, hg⟩ (c_M_goes l z D ac sa P h0 ma mv th (nI n) al (nI t) so (1 : Int32) (1 : Int32) (1 : Int32) (1 : Int32) mw) (cx_gv gm_M_83 gi_M_goes gs_M_goes gn_M gc_M_goes) (by decide +kernel) ⟨by decide, by decide⟩ hK hw mw.1 rfl rfl hl.1 rfl (Nat.le_of_ble_eq_true rfl) dd_M_supply_43 ⟨by decide, by decide⟩) hw (fun v9 P9 H locs hp hw => ?_)
  obtain ⟨rfl, e9⟩ := hp
  rw [e9] at hw
  clear e9 P9
  refine W.eq (g2 := F0 m 46 ls [.int (if (su_gs (1 : Int32) (1 : Int32) (1 : Int32) (1 : Int32)) = 0 then 1 else 0)]) rfl ?_
  obtain ⟨P35, eP35⟩ : ∃ pmv : pm_T, pmv = pm_up P h0 (md_o ma (su_gs (1 : Int32) (1 : Int32) (1 : Int32) (1 : Int32)) (nI n) al (nI t) so) := ⟨_, rfl⟩
  have hw : pm_W z D cl_w (pm_up P h0 (md_o ma (su_gs (1 : Int32) (1 : Int32) (1 : Int32) (1 : Int32)) (nI n) al (nI t) so)) s.heap H _ := hw
  rw [← eP35] at hw
  have mwP35 : md_W P35 ac h0 ma mv (su_gs (1 : Int32) (1 : Int32) (1 : Int32) (1 : Int32)) (nI n) al (nI t) so := by rw [eP35]; exact md_W.obj mw
  have mfP35 : md_F P P35 h0 ma := by rw [eP35]; exact md_F.obj md_F.rf
  refine W.eq (g2 := F0 m 46 ls [.int (1 : Int32)]) (by rw [show (if (su_gs (1 : Int32) (1 : Int32) (1 : Int32) (1 : Int32)) = 0 then 1 else 0) = (1 : Int32) from by decide]) ?_
  refine lv_if_ne (tgt := 51) hx hb dd_M_supply_46 (by decide) (fun c36 => ?_) (fun c36 => absurd c36 (by decide))
  refine lv_iconst (v := 0) hx hb dd_M_supply_51 (by decide) ?_
  refine lv_istore (lv' := [(6, .int (0 : Int32)), (0, .ref h0), (1, .int p1), (2, .int p2), (3, .int (nI dd)), (4, .int p4), (5, .int p5)]) hx hb dd_M_supply_52 hl (by decide) rfl (fun ls hl => ?_)
  refine lv_iconst (v := 0) hx hb dd_M_supply_54 (by decide) ?_
  refine lv_istore (lv' := [(7, .int (0 : Int32)), (6, .int (0 : Int32)), (0, .ref h0), (1, .int p1), (2, .int p2), (3, .int (nI dd)), (4, .int p4), (5, .int p5)]) hx hb dd_M_supply_55 hl (by decide) rfl (fun ls hl => ?_)
  have lp : ∀ (n9 m9 : Nat), m9 + n9 = 20 → ∀ (a6 : Int32) (H : Heap) (locs : List Loc) (ls : Array Slot), a6 = (su_mal mv (fun j => su_mus mv al j dd (wn j)) n t p1 p2 p4 p5 m9) → pm_W z D cl_w P35 s.heap H locs → lv_has ls 10 [(7, .int (nI m9)), (6, .int a6), (0, .ref h0), (1, .int p1), (2, .int p2), (3, .int (nI dd)), (4, .int p4), (5, .int p5)] → W p l e ({ frames := 4, cells := 0, slots := 0, locals := 120 } : Room) s m ([.ref h0, .int p1, .int p2, .int (nI dd), .int p4, .int p5] : List Value).toArray below meth c H locs 0 0 (MQ below (cx_Q z D (fun v P' => v = some (.int (su_mal mv (fun j => su_mus mv al j dd (wn j)) n t p1 p2 p4 p5 20)) ∧ md_W P' ac h0 ma mv 0 (nI n) al (nI t) so ∧ md_F P P' h0 ma)) ([.ref h0, .int p1, .int p2, .int (nI dd), .int p4, .int p5] : List Value).toArray s ({ frames := 4, cells := 0, slots := 0, locals := 120 } : Room).cells ({ frames := 4, cells := 0, slots := 0, locals := 120 } : Room).slots (pm_A z)) (F0 m 57 ls []) := by
    intro n9
    induction n9 with
    | zero =>
      intro m9 hk a6 H locs ls e6 hw hl
      have hk : m9 = 20 := by omega
      refine lv_iload hx hb dd_M_supply_57 (lv_at hl 0 rfl) ?_
      refine lv_bipush (v := 20) hx hb dd_M_supply_59 (by decide) ?_
      refine lv_icmp_ge (tgt := 195) hx hb dd_M_supply_61 (by decide) (fun c37 => ?_) (fun c37 => absurd (by rw [hk]; decide) c37)
      refine lv_iload hx hb dd_M_supply_195 (lv_at hl 1 rfl) ?_
      refine cx_iret (v := a6) hx hb hr rfl hlocks hw dd_M_supply_197 (by decide) (by decide) ?_
      exact ⟨by rw [e6, hk], mwP35, mfP35⟩
    | succ n9 ih =>
      intro m9 hk a6 H locs ls e6 hw hl
      have hm20 : m9 < 20 := by omega
      have inner : ∀ (q9 h : Nat), h + q9 = n → ∀ (s8 : Int32) (H : Heap) (locs : List Loc) (ls : Array Slot), s8 = (su_msm mv (fun j => su_mus mv al j dd (wn j)) t p1 p2 p4 p5 m9 h) → pm_W z D cl_w P35 s.heap H locs → lv_has ls 10 [(9, .int (nI h)), (8, .int s8), (7, .int (nI m9)), (6, .int a6), (0, .ref h0), (1, .int p1), (2, .int p2), (3, .int (nI dd)), (4, .int p4), (5, .int p5)] → W p l e ({ frames := 4, cells := 0, slots := 0, locals := 120 } : Room) s m ([.ref h0, .int p1, .int p2, .int (nI dd), .int p4, .int p5] : List Value).toArray below meth c H locs 0 0 (MQ below (cx_Q z D (fun v P' => v = some (.int (su_mal mv (fun j => su_mus mv al j dd (wn j)) n t p1 p2 p4 p5 20)) ∧ md_W P' ac h0 ma mv 0 (nI n) al (nI t) so ∧ md_F P P' h0 ma)) ([.ref h0, .int p1, .int p2, .int (nI dd), .int p4, .int p5] : List Value).toArray s ({ frames := 4, cells := 0, slots := 0, locals := 120 } : Room).cells ({ frames := 4, cells := 0, slots := 0, locals := 120 } : Room).slots (pm_A z)) (F0 m 70 ls []) := by
        intro q9
        induction q9 with
        | zero =>
          intro h hh s8 H locs ls e8 hw hl
          have hh : h = n := by omega
          rw [hh] at e8
          refine lv_iload hx hb dd_M_supply_70 (lv_at hl 0 rfl) ?_
          refine lv_aload_n hx hb dd_M_supply_72 rfl (lv_at hl 4 rfl) ?_
          refine pm_get (ci := 6) (C := cn_M) (T := cf_M) (N := 23) (v := .int (nI n)) hx hb hg gu_M hown hK.2.1 hw mwP35.1 rfl 1 (by decide) (hg _ gf_M_69) (fun _ h9 => h9) rfl dd_M_supply_73 ?_
          refine lv_icmp_ge (tgt := 160) hx hb dd_M_supply_76 (by decide) (fun c38 => ?_) (fun c38 => absurd (by rw [hh]; exact Int32.le_refl _) c38)
          refine lv_iload hx hb dd_M_supply_160 (lv_at hl 3 rfl) ?_
          refine lv_iload hx hb dd_M_supply_162 (lv_at hl 1 rfl) ?_
          refine lv_aload_n hx hb dd_M_supply_164 rfl (lv_at hl 4 rfl) ?_
          refine pm_get (ci := 6) (C := cn_M) (T := cf_M) (N := 23) (v := .ref (ma 9)) hx hb hg gu_M hown hK.2.1 hw mwP35.1 rfl 11 (by decide) (hg _ gf_M_38) (fun _ h9 => h9) rfl dd_M_supply_165 ?_
          refine lv_iload hx hb dd_M_supply_168 (lv_at hl 2 rfl) ?_
          refine pm_iald hx hb hK.2.1 hw 0 (show P35 (ma 9) = some (.inl (ac 0, 20, .inl (mv 9))) from mwP35.2.1 9 (by decide)) rfl (vp_in_nI (by omega) (by decide)) dd_M_supply_170 ?_
          refine W.eq (g2 := F0 m 171 ls [.int (mv 9 m9), .int s8, .int a6]) (by rw [show ((mv 9) ((nI m9).toNatClampNeg)) = (mv 9 m9) from by rw [nI_clamp (by omega)]]) ?_
          refine lv_icmp_le (tgt := 184) hx hb dd_M_supply_171 (by decide) (fun c39 => ?_) (fun c39 => ?_)
          · skip
            refine lv_iload hx hb dd_M_supply_184 (lv_at hl 1 rfl) ?_
            refine lv_iadd hx hb dd_M_supply_186 ?_
            refine lv_topi (fun x40 ex40 => ?_)
            refine lv_istore (lv' := [(6, .int x40), (9, .int (nI h)), (8, .int s8), (7, .int (nI m9)), (0, .ref h0), (1, .int p1), (2, .int p2), (3, .int (nI dd)), (4, .int p4), (5, .int p5)]) hx hb dd_M_supply_187 hl (by decide) rfl (fun ls hl => ?_)
            obtain ⟨x41, ex41⟩ : ∃ y : Int32, y = (nI m9) + 1 := ⟨_, rfl⟩
            refine lv_iinc (v := x41) (lv' := [(7, .int x41), (6, .int x40), (9, .int (nI h)), (8, .int s8), (0, .ref h0), (1, .int p1), (2, .int p2), (3, .int (nI dd)), (4, .int p4), (5, .int p5)]) hx hb dd_M_supply_189 hl (k := 3) rfl (by rw [ex41]; rfl) (by decide) rfl (fun ls hl => ?_)
            refine lv_goto (tgt := 57) hx hb dd_M_supply_192 (by decide) ?_
            have hi7 : x41 = nI (m9 + 1) := by rw [ex41]; exact nI_1 m9
            rw [hi7] at hl
            exact ih (m9 + 1) (by omega) x40 H _ ls (by rw [ex40, e6, e8]; rw [e8] at c39; simp only [su_mal, if_pos c39]) hw (lv_sub hl [0, 1, 4, 5, 6, 7, 8, 9] rfl)
          · skip
            refine lv_aload_n hx hb dd_M_supply_174 rfl (lv_at hl 4 rfl) ?_
            refine pm_get (ci := 6) (C := cn_M) (T := cf_M) (N := 23) (v := .ref (ma 9)) hx hb hg gu_M hown hK.2.1 hw mwP35.1 rfl 11 (by decide) (hg _ gf_M_38) (fun _ h9 => h9) rfl dd_M_supply_175 ?_
            refine lv_iload hx hb dd_M_supply_178 (lv_at hl 2 rfl) ?_
            refine pm_iald hx hb hK.2.1 hw 0 (show P35 (ma 9) = some (.inl (ac 0, 20, .inl (mv 9))) from mwP35.2.1 9 (by decide)) rfl (vp_in_nI (by omega) (by decide)) dd_M_supply_180 ?_
            refine W.eq (g2 := F0 m 181 ls [.int (mv 9 m9), .int a6]) (by rw [show ((mv 9) ((nI m9).toNatClampNeg)) = (mv 9 m9) from by rw [nI_clamp (by omega)]]) ?_
            refine lv_goto (tgt := 186) hx hb dd_M_supply_181 (by decide) ?_
            refine lv_iadd hx hb dd_M_supply_186 ?_
            refine lv_topi (fun x42 ex42 => ?_)
            refine lv_istore (lv' := [(6, .int x42), (9, .int (nI h)), (8, .int s8), (7, .int (nI m9)), (0, .ref h0), (1, .int p1), (2, .int p2), (3, .int (nI dd)), (4, .int p4), (5, .int p5)]) hx hb dd_M_supply_187 hl (by decide) rfl (fun ls hl => ?_)
            obtain ⟨x43, ex43⟩ : ∃ y : Int32, y = (nI m9) + 1 := ⟨_, rfl⟩
            refine lv_iinc (v := x43) (lv' := [(7, .int x43), (6, .int x42), (9, .int (nI h)), (8, .int s8), (0, .ref h0), (1, .int p1), (2, .int p2), (3, .int (nI dd)), (4, .int p4), (5, .int p5)]) hx hb dd_M_supply_189 hl (k := 3) rfl (by rw [ex43]; rfl) (by decide) rfl (fun ls hl => ?_)
            refine lv_goto (tgt := 57) hx hb dd_M_supply_192 (by decide) ?_
            have hi7 : x43 = nI (m9 + 1) := by rw [ex43]; exact nI_1 m9
            rw [hi7] at hl
            exact ih (m9 + 1) (by omega) x42 H _ ls (by rw [ex42, e6]; rw [e8] at c39; simp only [su_mal, if_neg c39]) hw (lv_sub hl [0, 1, 4, 5, 6, 7, 8, 9] rfl)
        | succ q9 jh =>
          intro h hh s8 H locs ls e8 hw hl
          have hhn : h < n := by omega
          rcases hq : su_cm (mv 10) (mv 11) (nI h) t with _ | i
          · skip
            refine lv_iload hx hb dd_M_supply_70 (lv_at hl 0 rfl) ?_
            refine lv_aload_n hx hb dd_M_supply_72 rfl (lv_at hl 4 rfl) ?_
            refine pm_get (ci := 6) (C := cn_M) (T := cf_M) (N := 23) (v := .int (nI n)) hx hb hg gu_M hown hK.2.1 hw mwP35.1 rfl 1 (by decide) (hg _ gf_M_69) (fun _ h9 => h9) rfl dd_M_supply_73 ?_
            refine lv_icmp_ge (tgt := 160) hx hb dd_M_supply_76 (by decide) (fun c44 => absurd c44 (nI_ge hhn (by omega))) (fun c44 => ?_)
            refine lv_aload_n hx hb dd_M_supply_79 rfl (lv_at hl 4 rfl) ?_
            refine pm_get (ci := 6) (C := cn_M) (T := cf_M) (N := 23) (v := .ref (ma 2)) hx hb hg gu_M hown hK.2.1 hw mwP35.1 rfl 4 (by decide) (hg _ gf_M_16) (fun _ h9 => h9) rfl dd_M_supply_80 ?_
            refine lv_iload hx hb dd_M_supply_83 (lv_at hl 0 rfl) ?_
            refine pm_iald hx hb hK.2.1 hw 0 (show P35 (ma 2) = some (.inl (ac 0, 40, .inl (mv 2))) from mwP35.2.1 2 (by decide)) rfl (vp_in_nI (by omega) (by decide)) dd_M_supply_85 ?_
            refine W.eq (g2 := F0 m 86 ls [.int (mv 2 h)]) (by rw [show ((mv 2) ((nI h).toNatClampNeg)) = (mv 2 h) from by rw [nI_clamp (by omega)]]) ?_
            refine lv_iload hx hb dd_M_supply_86 (lv_at hl 2 rfl) ?_
            refine lv_icmp_ne (tgt := 154) hx hb dd_M_supply_88 (by decide) (fun c45 => ?_) (fun c45 => ?_)
            · skip
              obtain ⟨x46, ex46⟩ : ∃ y : Int32, y = (nI h) + 1 := ⟨_, rfl⟩
              refine lv_iinc (v := x46) (lv' := [(9, .int x46), (8, .int s8), (7, .int (nI m9)), (6, .int a6), (0, .ref h0), (1, .int p1), (2, .int p2), (3, .int (nI dd)), (4, .int p4), (5, .int p5)]) hx hb dd_M_supply_154 hl (k := 0) rfl (by rw [ex46]; rfl) (by decide) rfl (fun ls hl => ?_)
              refine lv_goto (tgt := 70) hx hb dd_M_supply_157 (by decide) ?_
              have hi7 : x46 = nI (h + 1) := by rw [ex46]; exact nI_1 h
              rw [hi7] at hl
              exact jh (h + 1) (by omega) s8 H _ ls (by rw [e8]; conv => rhs; simp only [su_msm, hq, if_neg c45]) hw (lv_sub hl [0, 1, 2, 3, 4, 5, 6, 7, 8, 9] rfl)
            · skip
              refine lv_aload_n hx hb dd_M_supply_91 rfl (lv_at hl 4 rfl) ?_
              refine lv_iload hx hb dd_M_supply_92 (lv_at hl 0 rfl) ?_
              refine lv_iload_n hx hb dd_M_supply_94 rfl (lv_at hl 7 rfl) ?_
              refine cx_after (cx_rV (n := 2) (As := [.int (nI h), .int (nI dd)]) (rest := []) ⟨hx, hb, hml, hown, hg⟩ (c_M_isUsable l z D ac sa P35 h0 ma mv (su_gs (1 : Int32) (1 : Int32) (1 : Int32) (1 : Int32)) al so n t hn40 ht100 h (by omega) dd hdd (wn h) (hwn h (by omega)).1 (hwn h (by omega)).2 mwP35) (cx_gv gm_M_121 gi_M_isUsable gs_M_isUsable gn_M gc_M_isUsable) (by decide +kernel) ⟨by decide, by decide⟩ hK hw mwP35.1 rfl rfl hl.1 rfl (Nat.le_of_ble_eq_true rfl) dd_M_supply_95 ⟨by decide, by decide⟩) hw (fun v9 P9 H locs hp hw => ?_)
              obtain ⟨rfl, e9⟩ := hp
              rw [e9] at hw
              clear e9 P9
              refine W.eq (g2 := F0 m 98 ls [.int (su_mus mv al h dd (wn h))]) rfl ?_
              refine lv_if_eq (tgt := 154) hx hb dd_M_supply_98 (by decide) (fun c47 => ?_) (fun c47 => ?_)
              · skip
                obtain ⟨x48, ex48⟩ : ∃ y : Int32, y = (nI h) + 1 := ⟨_, rfl⟩
                refine lv_iinc (v := x48) (lv' := [(9, .int x48), (8, .int s8), (7, .int (nI m9)), (6, .int a6), (0, .ref h0), (1, .int p1), (2, .int p2), (3, .int (nI dd)), (4, .int p4), (5, .int p5)]) hx hb dd_M_supply_154 hl (k := 0) rfl (by rw [ex48]; rfl) (by decide) rfl (fun ls hl => ?_)
                refine lv_goto (tgt := 70) hx hb dd_M_supply_157 (by decide) ?_
                have hi7 : x48 = nI (h + 1) := by rw [ex48]; exact nI_1 h
                rw [hi7] at hl
                exact jh (h + 1) (by omega) s8 H _ ls (by rw [e8]; conv => rhs; simp only [su_msm, hq, if_pos c45, if_pos c47]) hw (lv_sub hl [0, 1, 2, 3, 4, 5, 6, 7, 8, 9] rfl)
              · skip
                refine lv_aload_n hx hb dd_M_supply_101 rfl (lv_at hl 4 rfl) ?_
                refine lv_iload_n hx hb dd_M_supply_102 rfl (lv_at hl 5 rfl) ?_
                refine lv_iload_n hx hb dd_M_supply_103 rfl (lv_at hl 6 rfl) ?_
                refine lv_iload hx hb dd_M_supply_104 (lv_at hl 0 rfl) ?_
                refine cx_after (cx_rV (n := 3) (As := [.int p1, .int p2, .int (nI h)]) (rest := []) ⟨hx, hb, hml, hown, hg⟩ (c_M_hose l z D ac sa P35 h0 ma mv (su_gs (1 : Int32) (1 : Int32) (1 : Int32) (1 : Int32)) (nI n) al (nI t) so p1 p2 h (by omega) mwP35) (cx_gv gm_M_127 gi_M_hose gs_M_hose gn_M gc_M_hose) (by decide +kernel) ⟨by decide, by decide⟩ hK hw mwP35.1 rfl rfl hl.1 rfl (Nat.le_of_ble_eq_true rfl) dd_M_supply_106 ⟨by decide, by decide⟩) hw (fun v9 P9 H locs hp hw => ?_)
                obtain ⟨rfl, e9⟩ := hp
                rw [e9] at hw
                clear e9 P9
                refine W.eq (g2 := F0 m 109 ls [.int (su_mh mv p1 p2 h)]) rfl ?_
                refine lv_iload hx hb dd_M_supply_109 (lv_at hl 9 rfl) ?_
                refine lv_icmp_gt (tgt := 154) hx hb dd_M_supply_111 (by decide) (fun c49 => ?_) (fun c49 => ?_)
                · skip
                  obtain ⟨x50, ex50⟩ : ∃ y : Int32, y = (nI h) + 1 := ⟨_, rfl⟩
                  refine lv_iinc (v := x50) (lv' := [(9, .int x50), (8, .int s8), (7, .int (nI m9)), (6, .int a6), (0, .ref h0), (1, .int p1), (2, .int p2), (3, .int (nI dd)), (4, .int p4), (5, .int p5)]) hx hb dd_M_supply_154 hl (k := 0) rfl (by rw [ex50]; rfl) (by decide) rfl (fun ls hl => ?_)
                  refine lv_goto (tgt := 70) hx hb dd_M_supply_157 (by decide) ?_
                  have hi7 : x50 = nI (h + 1) := by rw [ex50]; exact nI_1 h
                  rw [hi7] at hl
                  exact jh (h + 1) (by omega) s8 H _ ls (by rw [e8]; conv => rhs; simp only [su_msm, hq, if_pos c45, if_neg c47, if_pos c49]) hw (lv_sub hl [0, 1, 2, 3, 4, 5, 6, 7, 8, 9] rfl)
                · skip
                  refine lv_aload_n hx hb dd_M_supply_114 rfl (lv_at hl 4 rfl) ?_
                  refine lv_iload hx hb dd_M_supply_115 (lv_at hl 0 rfl) ?_
                  refine cx_after (cx_rV (n := 1) (As := [.int (nI h)]) (rest := []) ⟨hx, hb, hml, hown, hg⟩ (c_M_counts l z D ac sa P35 h0 ma mv (su_gs (1 : Int32) (1 : Int32) (1 : Int32) (1 : Int32)) (nI n) al (nI t) so (nI h) t ht100 rfl mwP35) (cx_gv gm_M_107 gi_M_counts gs_M_counts gn_M gc_M_counts) (by decide +kernel) ⟨by decide, by decide⟩ hK hw mwP35.1 rfl rfl hl.1 rfl (Nat.le_of_ble_eq_true rfl) dd_M_supply_117 ⟨by decide, by decide⟩) hw (fun v9 P9 H locs hp hw => ?_)
                  obtain ⟨rfl, e9⟩ := hp
                  rw [e9] at hw
                  clear e9 P9
                  refine W.eq (g2 := F0 m 120 ls [.int (su_oi (su_cm (mv 10) (mv 11) (nI h) t))]) rfl ?_
                  refine W.eq (g2 := F0 m 120 ls [.int (-1 : Int32)]) (by rw [show (su_oi (su_cm (mv 10) (mv 11) (nI h) t)) = (-1 : Int32) from by rw [hq]; rfl]) ?_
                  refine lv_if_lt (tgt := 154) hx hb dd_M_supply_120 (by decide) (fun c51 => ?_) (fun c51 => absurd (by decide) c51)
                  obtain ⟨x52, ex52⟩ : ∃ y : Int32, y = (nI h) + 1 := ⟨_, rfl⟩
                  refine lv_iinc (v := x52) (lv' := [(9, .int x52), (8, .int s8), (7, .int (nI m9)), (6, .int a6), (0, .ref h0), (1, .int p1), (2, .int p2), (3, .int (nI dd)), (4, .int p4), (5, .int p5)]) hx hb dd_M_supply_154 hl (k := 0) rfl (by rw [ex52]; rfl) (by decide) rfl (fun ls hl => ?_)
                  refine lv_goto (tgt := 70) hx hb dd_M_supply_157 (by decide) ?_
                  have hi7 : x52 = nI (h + 1) := by rw [ex52]; exact nI_1 h
                  rw [hi7] at hl
                  exact jh (h + 1) (by omega) s8 H _ ls (by rw [e8]; conv => rhs; simp only [su_msm, hq, if_pos c45, if_neg c47, if_neg c49]) hw (lv_sub hl [0, 1, 2, 3, 4, 5, 6, 7, 8, 9] rfl)
          · skip
            have hi9 : i < 100 := by have := su_cm_lt hq; omega
            refine lv_iload hx hb dd_M_supply_70 (lv_at hl 0 rfl) ?_
            refine lv_aload_n hx hb dd_M_supply_72 rfl (lv_at hl 4 rfl) ?_
            refine pm_get (ci := 6) (C := cn_M) (T := cf_M) (N := 23) (v := .int (nI n)) hx hb hg gu_M hown hK.2.1 hw mwP35.1 rfl 1 (by decide) (hg _ gf_M_69) (fun _ h9 => h9) rfl dd_M_supply_73 ?_
            refine lv_icmp_ge (tgt := 160) hx hb dd_M_supply_76 (by decide) (fun c53 => absurd c53 (nI_ge hhn (by omega))) (fun c53 => ?_)
            refine lv_aload_n hx hb dd_M_supply_79 rfl (lv_at hl 4 rfl) ?_
            refine pm_get (ci := 6) (C := cn_M) (T := cf_M) (N := 23) (v := .ref (ma 2)) hx hb hg gu_M hown hK.2.1 hw mwP35.1 rfl 4 (by decide) (hg _ gf_M_16) (fun _ h9 => h9) rfl dd_M_supply_80 ?_
            refine lv_iload hx hb dd_M_supply_83 (lv_at hl 0 rfl) ?_
            refine pm_iald hx hb hK.2.1 hw 0 (show P35 (ma 2) = some (.inl (ac 0, 40, .inl (mv 2))) from mwP35.2.1 2 (by decide)) rfl (vp_in_nI (by omega) (by decide)) dd_M_supply_85 ?_
            refine W.eq (g2 := F0 m 86 ls [.int (mv 2 h)]) (by rw [show ((mv 2) ((nI h).toNatClampNeg)) = (mv 2 h) from by rw [nI_clamp (by omega)]]) ?_
            refine lv_iload hx hb dd_M_supply_86 (lv_at hl 2 rfl) ?_
            refine lv_icmp_ne (tgt := 154) hx hb dd_M_supply_88 (by decide) (fun c54 => ?_) (fun c54 => ?_)
            · skip
              obtain ⟨x55, ex55⟩ : ∃ y : Int32, y = (nI h) + 1 := ⟨_, rfl⟩
              refine lv_iinc (v := x55) (lv' := [(9, .int x55), (8, .int s8), (7, .int (nI m9)), (6, .int a6), (0, .ref h0), (1, .int p1), (2, .int p2), (3, .int (nI dd)), (4, .int p4), (5, .int p5)]) hx hb dd_M_supply_154 hl (k := 0) rfl (by rw [ex55]; rfl) (by decide) rfl (fun ls hl => ?_)
              refine lv_goto (tgt := 70) hx hb dd_M_supply_157 (by decide) ?_
              have hi7 : x55 = nI (h + 1) := by rw [ex55]; exact nI_1 h
              rw [hi7] at hl
              exact jh (h + 1) (by omega) s8 H _ ls (by rw [e8]; conv => rhs; simp only [su_msm, hq, if_neg c54]) hw (lv_sub hl [0, 1, 2, 3, 4, 5, 6, 7, 8, 9] rfl)
            · skip
              refine lv_aload_n hx hb dd_M_supply_91 rfl (lv_at hl 4 rfl) ?_
              refine lv_iload hx hb dd_M_supply_92 (lv_at hl 0 rfl) ?_
              refine lv_iload_n hx hb dd_M_supply_94 rfl (lv_at hl 7 rfl) ?_
              refine cx_after (cx_rV (n := 2) (As := [.int (nI h), .int (nI dd)]) (rest := []) ⟨hx, hb, hml, hown, hg⟩ (c_M_isUsable l z D ac sa P35 h0 ma mv (su_gs (1 : Int32) (1 : Int32) (1 : Int32) (1 : Int32)) al so n t hn40 ht100 h (by omega) dd hdd (wn h) (hwn h (by omega)).1 (hwn h (by omega)).2 mwP35) (cx_gv gm_M_121 gi_M_isUsable gs_M_isUsable gn_M gc_M_isUsable) (by decide +kernel) ⟨by decide, by decide⟩ hK hw mwP35.1 rfl rfl hl.1 rfl (Nat.le_of_ble_eq_true rfl) dd_M_supply_95 ⟨by decide, by decide⟩) hw (fun v9 P9 H locs hp hw => ?_)
              obtain ⟨rfl, e9⟩ := hp
              rw [e9] at hw
              clear e9 P9
              refine W.eq (g2 := F0 m 98 ls [.int (su_mus mv al h dd (wn h))]) rfl ?_
              refine lv_if_eq (tgt := 154) hx hb dd_M_supply_98 (by decide) (fun c56 => ?_) (fun c56 => ?_)
              · skip
                obtain ⟨x57, ex57⟩ : ∃ y : Int32, y = (nI h) + 1 := ⟨_, rfl⟩
                refine lv_iinc (v := x57) (lv' := [(9, .int x57), (8, .int s8), (7, .int (nI m9)), (6, .int a6), (0, .ref h0), (1, .int p1), (2, .int p2), (3, .int (nI dd)), (4, .int p4), (5, .int p5)]) hx hb dd_M_supply_154 hl (k := 0) rfl (by rw [ex57]; rfl) (by decide) rfl (fun ls hl => ?_)
                refine lv_goto (tgt := 70) hx hb dd_M_supply_157 (by decide) ?_
                have hi7 : x57 = nI (h + 1) := by rw [ex57]; exact nI_1 h
                rw [hi7] at hl
                exact jh (h + 1) (by omega) s8 H _ ls (by rw [e8]; conv => rhs; simp only [su_msm, hq, if_pos c54, if_pos c56]) hw (lv_sub hl [0, 1, 2, 3, 4, 5, 6, 7, 8, 9] rfl)
              · skip
                refine lv_aload_n hx hb dd_M_supply_101 rfl (lv_at hl 4 rfl) ?_
                refine lv_iload_n hx hb dd_M_supply_102 rfl (lv_at hl 5 rfl) ?_
                refine lv_iload_n hx hb dd_M_supply_103 rfl (lv_at hl 6 rfl) ?_
                refine lv_iload hx hb dd_M_supply_104 (lv_at hl 0 rfl) ?_
                refine cx_after (cx_rV (n := 3) (As := [.int p1, .int p2, .int (nI h)]) (rest := []) ⟨hx, hb, hml, hown, hg⟩ (c_M_hose l z D ac sa P35 h0 ma mv (su_gs (1 : Int32) (1 : Int32) (1 : Int32) (1 : Int32)) (nI n) al (nI t) so p1 p2 h (by omega) mwP35) (cx_gv gm_M_127 gi_M_hose gs_M_hose gn_M gc_M_hose) (by decide +kernel) ⟨by decide, by decide⟩ hK hw mwP35.1 rfl rfl hl.1 rfl (Nat.le_of_ble_eq_true rfl) dd_M_supply_106 ⟨by decide, by decide⟩) hw (fun v9 P9 H locs hp hw => ?_)
                obtain ⟨rfl, e9⟩ := hp
                rw [e9] at hw
                clear e9 P9
                refine W.eq (g2 := F0 m 109 ls [.int (su_mh mv p1 p2 h)]) rfl ?_
                refine lv_iload hx hb dd_M_supply_109 (lv_at hl 9 rfl) ?_
                refine lv_icmp_gt (tgt := 154) hx hb dd_M_supply_111 (by decide) (fun c58 => ?_) (fun c58 => ?_)
                · skip
                  obtain ⟨x59, ex59⟩ : ∃ y : Int32, y = (nI h) + 1 := ⟨_, rfl⟩
                  refine lv_iinc (v := x59) (lv' := [(9, .int x59), (8, .int s8), (7, .int (nI m9)), (6, .int a6), (0, .ref h0), (1, .int p1), (2, .int p2), (3, .int (nI dd)), (4, .int p4), (5, .int p5)]) hx hb dd_M_supply_154 hl (k := 0) rfl (by rw [ex59]; rfl) (by decide) rfl (fun ls hl => ?_)
                  refine lv_goto (tgt := 70) hx hb dd_M_supply_157 (by decide) ?_
                  have hi7 : x59 = nI (h + 1) := by rw [ex59]; exact nI_1 h
                  rw [hi7] at hl
                  exact jh (h + 1) (by omega) s8 H _ ls (by rw [e8]; conv => rhs; simp only [su_msm, hq, if_pos c54, if_neg c56, if_pos c58]) hw (lv_sub hl [0, 1, 2, 3, 4, 5, 6, 7, 8, 9] rfl)
                · skip
                  refine lv_aload_n hx hb dd_M_supply_114 rfl (lv_at hl 4 rfl) ?_
                  refine lv_iload hx hb dd_M_supply_115 (lv_at hl 0 rfl) ?_
                  refine cx_after (cx_rV (n := 1) (As := [.int (nI h)]) (rest := []) ⟨hx, hb, hml, hown, hg⟩ (c_M_counts l z D ac sa P35 h0 ma mv (su_gs (1 : Int32) (1 : Int32) (1 : Int32) (1 : Int32)) (nI n) al (nI t) so (nI h) t ht100 rfl mwP35) (cx_gv gm_M_107 gi_M_counts gs_M_counts gn_M gc_M_counts) (by decide +kernel) ⟨by decide, by decide⟩ hK hw mwP35.1 rfl rfl hl.1 rfl (Nat.le_of_ble_eq_true rfl) dd_M_supply_117 ⟨by decide, by decide⟩) hw (fun v9 P9 H locs hp hw => ?_)
                  obtain ⟨rfl, e9⟩ := hp
                  rw [e9] at hw
                  clear e9 P9
                  refine W.eq (g2 := F0 m 120 ls [.int (su_oi (su_cm (mv 10) (mv 11) (nI h) t))]) rfl ?_
                  refine W.eq (g2 := F0 m 120 ls [.int (nI i)]) (by rw [show (su_oi (su_cm (mv 10) (mv 11) (nI h) t)) = (nI i) from by rw [hq]; rfl]) ?_
                  refine lv_if_lt (tgt := 154) hx hb dd_M_supply_120 (by decide) (fun c60 => absurd c60 (nI_pos (by omega))) (fun c60 => ?_)
                  refine lv_aload_n hx hb dd_M_supply_123 rfl (lv_at hl 4 rfl) ?_
                  refine lv_aload_n hx hb dd_M_supply_124 rfl (lv_at hl 4 rfl) ?_
                  refine lv_iload hx hb dd_M_supply_125 (lv_at hl 0 rfl) ?_
                  refine cx_after (cx_rV (n := 1) (As := [.int (nI h)]) (rest := [.ref h0]) ⟨hx, hb, hml, hown, hg⟩ (c_M_counts l z D ac sa P35 h0 ma mv (su_gs (1 : Int32) (1 : Int32) (1 : Int32) (1 : Int32)) (nI n) al (nI t) so (nI h) t ht100 rfl mwP35) (cx_gv gm_M_107 gi_M_counts gs_M_counts gn_M gc_M_counts) (by decide +kernel) ⟨by decide, by decide⟩ hK hw mwP35.1 rfl rfl hl.1 rfl (Nat.le_of_ble_eq_true rfl) dd_M_supply_127 ⟨by decide, by decide⟩) hw (fun v9 P9 H locs hp hw => ?_)
                  obtain ⟨rfl, e9⟩ := hp
                  rw [e9] at hw
                  clear e9 P9
                  refine W.eq (g2 := F0 m 130 ls [.int (su_oi (su_cm (mv 10) (mv 11) (nI h) t)), .ref h0]) rfl ?_
                  refine W.eq (g2 := F0 m 130 ls [.int (nI i), .ref h0]) (by rw [show (su_oi (su_cm (mv 10) (mv 11) (nI h) t)) = (nI i) from by rw [hq]; rfl]) ?_
                  refine lv_iload hx hb dd_M_supply_130 (lv_at hl 8 rfl) ?_
                  refine cx_after (cx_rV (n := 2) (As := [.int (nI i), .int p4]) (rest := []) ⟨hx, hb, hml, hown, hg⟩ (c_M_canTell l z D ac sa P35 h0 ma mv (su_gs (1 : Int32) (1 : Int32) (1 : Int32) (1 : Int32)) (nI n) al (nI t) so i p4 (by omega) mwP35) (cx_gv gm_M_111 gi_M_canTell gs_M_canTell gn_M gc_M_canTell) (by decide +kernel) ⟨by decide, by decide⟩ hK hw mwP35.1 rfl rfl hl.1 rfl (Nat.le_of_ble_eq_true rfl) dd_M_supply_132 ⟨by decide, by decide⟩) hw (fun v9 P9 H locs hp hw => ?_)
                  obtain ⟨rfl, e9⟩ := hp
                  rw [e9] at hw
                  clear e9 P9
                  refine W.eq (g2 := F0 m 135 ls [.int (su_mct mv i p4)]) rfl ?_
                  refine lv_if_ne (tgt := 141) hx hb dd_M_supply_135 (by decide) (fun c61 => ?_) (fun c61 => ?_)
                  · skip
                    refine lv_iload hx hb dd_M_supply_141 (lv_at hl 1 rfl) ?_
                    refine lv_aload_n hx hb dd_M_supply_143 rfl (lv_at hl 4 rfl) ?_
                    refine lv_iload hx hb dd_M_supply_144 (lv_at hl 0 rfl) ?_
                    refine lv_iload hx hb dd_M_supply_146 (lv_at hl 8 rfl) ?_
                    refine cx_after (cx_rV (n := 2) (As := [.int (nI h), .int p4]) (rest := [.int s8]) ⟨hx, hb, hml, hown, hg⟩ (c_M_whole l z D ac sa P35 h0 ma mv (su_gs (1 : Int32) (1 : Int32) (1 : Int32) (1 : Int32)) al so n t hn40 ht100 h i p4 hq (su_mdn_nz c61) mwP35) (cx_gv gm_M_131 gi_M_whole gs_M_whole gn_M gc_M_whole) (by decide +kernel) ⟨by decide, by decide⟩ hK hw mwP35.1 rfl rfl hl.1 rfl (Nat.le_of_ble_eq_true rfl) dd_M_supply_148 ⟨by decide, by decide⟩) hw (fun v9 P9 H locs hp hw => ?_)
                    obtain ⟨rfl, e9⟩ := hp
                    rw [e9] at hw
                    clear e9 P9
                    refine W.eq (g2 := F0 m 151 ls [.int ((su_mup mv i p4) / (su_mdn mv i p4)), .int s8]) rfl ?_
                    refine lv_iadd hx hb dd_M_supply_151 ?_
                    refine lv_topi (fun x62 ex62 => ?_)
                    refine lv_istore (lv' := [(8, .int x62), (9, .int (nI h)), (7, .int (nI m9)), (6, .int a6), (0, .ref h0), (1, .int p1), (2, .int p2), (3, .int (nI dd)), (4, .int p4), (5, .int p5)]) hx hb dd_M_supply_152 hl (by decide) rfl (fun ls hl => ?_)
                    obtain ⟨x63, ex63⟩ : ∃ y : Int32, y = (nI h) + 1 := ⟨_, rfl⟩
                    refine lv_iinc (v := x63) (lv' := [(9, .int x63), (8, .int x62), (7, .int (nI m9)), (6, .int a6), (0, .ref h0), (1, .int p1), (2, .int p2), (3, .int (nI dd)), (4, .int p4), (5, .int p5)]) hx hb dd_M_supply_154 hl (k := 1) rfl (by rw [ex63]; rfl) (by decide) rfl (fun ls hl => ?_)
                    refine lv_goto (tgt := 70) hx hb dd_M_supply_157 (by decide) ?_
                    have hi7 : x63 = nI (h + 1) := by rw [ex63]; exact nI_1 h
                    rw [hi7] at hl
                    exact jh (h + 1) (by omega) x62 H _ ls (by rw [ex62, e8]; conv => rhs; simp only [su_msm, hq, if_pos c54, if_neg c56, if_neg c58, if_neg c61]) hw (lv_sub hl [0, 1, 2, 3, 4, 5, 6, 7, 8, 9] rfl)
                  · skip
                    refine lv_goto (tgt := 154) hx hb dd_M_supply_138 (by decide) ?_
                    obtain ⟨x64, ex64⟩ : ∃ y : Int32, y = (nI h) + 1 := ⟨_, rfl⟩
                    refine lv_iinc (v := x64) (lv' := [(9, .int x64), (8, .int s8), (7, .int (nI m9)), (6, .int a6), (0, .ref h0), (1, .int p1), (2, .int p2), (3, .int (nI dd)), (4, .int p4), (5, .int p5)]) hx hb dd_M_supply_154 hl (k := 0) rfl (by rw [ex64]; rfl) (by decide) rfl (fun ls hl => ?_)
                    refine lv_goto (tgt := 70) hx hb dd_M_supply_157 (by decide) ?_
                    have hi7 : x64 = nI (h + 1) := by rw [ex64]; exact nI_1 h
                    rw [hi7] at hl
                    exact jh (h + 1) (by omega) s8 H _ ls (by rw [e8]; conv => rhs; simp only [su_msm, hq, if_pos c54, if_neg c56, if_neg c58, if_pos c61]) hw (lv_sub hl [0, 1, 2, 3, 4, 5, 6, 7, 8, 9] rfl)
      refine lv_iload hx hb dd_M_supply_57 (lv_at hl 0 rfl) ?_
      refine lv_bipush (v := 20) hx hb dd_M_supply_59 (by decide) ?_
      refine lv_icmp_ge (tgt := 195) hx hb dd_M_supply_61 (by decide) (fun c65 => absurd c65 (nI_ge hm20 (by decide))) (fun c65 => ?_)
      refine lv_iconst (v := 0) hx hb dd_M_supply_64 (by decide) ?_
      refine lv_istore (lv' := [(8, .int (0 : Int32)), (7, .int (nI m9)), (6, .int a6), (0, .ref h0), (1, .int p1), (2, .int p2), (3, .int (nI dd)), (4, .int p4), (5, .int p5)]) hx hb dd_M_supply_65 hl (by decide) rfl (fun ls hl => ?_)
      refine lv_iconst (v := 0) hx hb dd_M_supply_67 (by decide) ?_
      refine lv_istore (lv' := [(9, .int (0 : Int32)), (8, .int (0 : Int32)), (7, .int (nI m9)), (6, .int a6), (0, .ref h0), (1, .int p1), (2, .int p2), (3, .int (nI dd)), (4, .int p4), (5, .int p5)]) hx hb dd_M_supply_68 hl (by decide) rfl (fun ls hl => ?_)
      exact inner n 0 (Nat.zero_add n) 0 _ _ ls rfl hw (lv_sub hl [0, 1, 2, 3, 4, 5, 6, 7, 8, 9] rfl)
  exact lp 20 0 rfl 0 _ _ ls rfl hw (lv_sub hl [0, 1, 2, 3, 4, 5, 6, 7] rfl)
