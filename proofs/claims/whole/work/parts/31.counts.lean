def su_sz (v : Int32) : Int32 := if 0 ≤ v then v else -v
def su_mh (mv : Nat → Nat → Int32) (a b : Int32) (j : Nat) : Int32 := su_sz (a - mv 0 j) + su_sz (b - mv 1 j)
def su_mct (mv : Nat → Nat → Int32) (j : Nat) (p : Int32) : Int32 := if mv 12 j ≤ p then 1 else if mv 12 j ≤ mv 14 j then 0 else 1
def su_mup (mv : Nat → Nat → Int32) (j : Nat) (p : Int32) : Int32 := if p < mv 12 j then mv 13 j * (mv 12 j - p) else 0
def su_mdn (mv : Nat → Nat → Int32) (j : Nat) (p : Int32) : Int32 := if p < mv 12 j then mv 12 j - mv 14 j else 1
/-- the test that counts -/
def su_cm (oh dy : Nat → Int32) (h : Int32) : Nat → Option Nat
  | 0 => none
  | k + 1 => if oh k = h then (match su_cm oh dy h k with
    | none => some k
    | some j => if dy k < dy j then some j else some k) else su_cm oh dy h k
def su_oi (o : Option Nat) : Int32 := match o with
  | none => -1
  | some j => nI j
theorem su_cm_lt {oh dy : Nat → Int32} {h : Int32} : ∀ {k j : Nat}, su_cm oh dy h k = some j → j < k
  | 0, j, e => by cases e
  | k + 1, j, e => by
    simp only [su_cm] at e
    by_cases h1 : oh k = h
    · rw [if_pos h1] at e
      rcases hq : su_cm oh dy h k with _ | i
      · rw [hq] at e; cases e; omega
      · rw [hq] at e
        have h2 := su_cm_lt hq
        by_cases h3 : dy k < dy i
        · simp only [h3, if_true] at e; cases e; omega
        · simp only [h3, if_false] at e; cases e; omega
    · rw [if_neg h1] at e
      have h2 := su_cm_lt e
      omega

set_option maxHeartbeats 4000000 in
set_option maxRecDepth 100000 in
theorem c_M_size (l : Launch) (z : Nat) (D : va_G) (ac : Nat → ClassId) (sa : Nat → Nat) (P : pm_T) (p0 : Int32)  : cx_M l yy_M_size bb_M_size 1 (some .int) ({ frames := 0, cells := 0, slots := 0, locals := 0 } : Room) z D ac sa P [.int p0] (fun v P' => v = some (.int (su_sz p0)) ∧ P' = P) := by
  refine cx_ofM (by decide) (Nat.le_of_ble_eq_true rfl) (fun p e s m below meth c ls hx hb hr hml hg hown hlocks hin hK hw hl => ?_)
  have hl : lv_has ls 1 [(0, .int p0)] := hl
  have hown : s.vm.findClass cn_M = some m.cls := hown
  refine lv_iload_n hx hb dd_M_size_0 rfl (lv_at hl 0 rfl) ?_
  refine lv_if_ge (tgt := 9) hx hb dd_M_size_1 (by decide) (fun c31 => ?_) (fun c31 => ?_)
  · skip
    refine lv_iload_n hx hb dd_M_size_9 rfl (lv_at hl 0 rfl) ?_
    refine cx_iret (v := p0) hx hb hr rfl hlocks hw dd_M_size_10 (by decide) (by decide) ?_
    exact ⟨by simp only [su_sz, if_pos c31], rfl⟩
  · skip
    refine lv_iload_n hx hb dd_M_size_4 rfl (lv_at hl 0 rfl) ?_
    refine lv_ineg hx hb dd_M_size_5 ?_
    refine lv_goto (tgt := 10) hx hb dd_M_size_6 (by decide) ?_
    refine cx_iret (v := (-p0)) hx hb hr rfl hlocks hw dd_M_size_10 (by decide) (by decide) ?_
    exact ⟨by simp only [su_sz, if_neg c31], rfl⟩

set_option maxHeartbeats 4000000 in
set_option maxRecDepth 100000 in
theorem c_M_hose (l : Launch) (z : Nat) (D : va_G) (ac : Nat → ClassId) (sa : Nat → Nat) (P : pm_T) (h0 : Nat) (ma : Nat → Nat) (mv : Nat → Nat → Int32) (th hn al tn so : Int32) (p1 p2 : Int32) (j : Nat) (hj : j < 40) (mw : md_W P ac h0 ma mv th hn al tn so)  : cx_M l yy_M_hose bb_M_hose 4 (some .int) ({ frames := 1, cells := 0, slots := 0, locals := 20 } : Room) z D ac sa P [.ref h0, .int p1, .int p2, .int (nI j)] (fun v P' => v = some (.int (su_mh mv p1 p2 j)) ∧ P' = P) := by
  refine cx_ofM (by decide) (Nat.le_of_ble_eq_true rfl) (fun p e s m below meth c ls hx hb hr hml hg hown hlocks hin hK hw hl => ?_)
  have hl : lv_has ls 4 [(0, .ref h0), (1, .int p1), (2, .int p2), (3, .int (nI j))] := hl
  have hown : s.vm.findClass cn_M = some m.cls := hown
  refine lv_iload_n hx hb dd_M_hose_0 rfl (lv_at hl 1 rfl) ?_
  refine lv_aload_n hx hb dd_M_hose_1 rfl (lv_at hl 0 rfl) ?_
  refine pm_get (ci := 6) (C := cn_M) (T := cf_M) (N := 23) (v := .ref (ma 0)) hx hb hg gu_M hown hK.2.1 hw mw.1 rfl 2 (by decide) (hg _ gf_M_7) (fun _ h9 => h9) rfl dd_M_hose_2 ?_
  refine lv_iload_n hx hb dd_M_hose_5 rfl (lv_at hl 3 rfl) ?_
  refine pm_iald hx hb hK.2.1 hw 0 (show P (ma 0) = some (.inl (ac 0, 40, .inl (mv 0))) from mw.2.1 0 (by decide)) rfl (vp_in_nI hj (by decide)) dd_M_hose_6 ?_
  refine lv_isub hx hb dd_M_hose_7 ?_
  refine cx_after (cx_rS (n := 1) (As := [.int (p1 - ((mv 0) ((nI j).toNatClampNeg)))]) (rest := []) ⟨hx, hb, hml, hown, hg⟩ (c_M_size l z D ac sa P (p1 - ((mv 0) ((nI j).toNatClampNeg)))) (cx_gs gm_M_124 gt_M_size gn_M gc_M_size) (by decide +kernel) ⟨by decide, by decide⟩ hK hw rfl hl.1 rfl (Nat.le_of_ble_eq_true rfl) dd_M_hose_8 ⟨by decide, by decide⟩) hw (fun v9 P9 H locs hp hw => ?_)
  obtain ⟨rfl, e9⟩ := hp
  rw [e9] at hw
  clear e9 P9
  refine W.eq (g2 := F0 m 11 ls [.int (su_sz (p1 - ((mv 0) ((nI j).toNatClampNeg))))]) rfl ?_
  refine lv_iload_n hx hb dd_M_hose_11 rfl (lv_at hl 2 rfl) ?_
  refine lv_aload_n hx hb dd_M_hose_12 rfl (lv_at hl 0 rfl) ?_
  refine pm_get (ci := 6) (C := cn_M) (T := cf_M) (N := 23) (v := .ref (ma 1)) hx hb hg gu_M hown hK.2.1 hw mw.1 rfl 3 (by decide) (hg _ gf_M_13) (fun _ h9 => h9) rfl dd_M_hose_13 ?_
  refine lv_iload_n hx hb dd_M_hose_16 rfl (lv_at hl 3 rfl) ?_
  refine pm_iald hx hb hK.2.1 hw 0 (show P (ma 1) = some (.inl (ac 0, 40, .inl (mv 1))) from mw.2.1 1 (by decide)) rfl (vp_in_nI hj (by decide)) dd_M_hose_17 ?_
  refine lv_isub hx hb dd_M_hose_18 ?_
  refine cx_after (cx_rS (n := 1) (As := [.int (p2 - ((mv 1) ((nI j).toNatClampNeg)))]) (rest := [.int (su_sz (p1 - ((mv 0) ((nI j).toNatClampNeg))))]) ⟨hx, hb, hml, hown, hg⟩ (c_M_size l z D ac sa P (p2 - ((mv 1) ((nI j).toNatClampNeg)))) (cx_gs gm_M_124 gt_M_size gn_M gc_M_size) (by decide +kernel) ⟨by decide, by decide⟩ hK hw rfl hl.1 rfl (Nat.le_of_ble_eq_true rfl) dd_M_hose_19 ⟨by decide, by decide⟩) hw (fun v9 P9 H locs hp hw => ?_)
  obtain ⟨rfl, e9⟩ := hp
  rw [e9] at hw
  clear e9 P9
  refine W.eq (g2 := F0 m 22 ls [.int (su_sz (p2 - ((mv 1) ((nI j).toNatClampNeg)))), .int (su_sz (p1 - ((mv 0) ((nI j).toNatClampNeg))))]) rfl ?_
  refine lv_iadd hx hb dd_M_hose_22 ?_
  refine cx_iret (v := ((su_sz (p1 - ((mv 0) ((nI j).toNatClampNeg)))) + (su_sz (p2 - ((mv 1) ((nI j).toNatClampNeg)))))) hx hb hr rfl hlocks hw dd_M_hose_23 (by decide) (by decide) ?_
  exact ⟨by rw [su_mh, nI_clamp (Nat.lt_trans hj (by decide))], rfl⟩

set_option maxHeartbeats 4000000 in
set_option maxRecDepth 100000 in
theorem c_M_canTell (l : Launch) (z : Nat) (D : va_G) (ac : Nat → ClassId) (sa : Nat → Nat) (P : pm_T) (h0 : Nat) (ma : Nat → Nat) (mv : Nat → Nat → Int32) (th hn al tn so : Int32) (j : Nat) (p2 : Int32) (hj : j < 100) (mw : md_W P ac h0 ma mv th hn al tn so)  : cx_M l yy_M_canTell bb_M_canTell 3 (some .boolean) ({ frames := 0, cells := 0, slots := 0, locals := 0 } : Room) z D ac sa P [.ref h0, .int (nI j), .int p2] (fun v P' => v = some (.int (su_mct mv j p2)) ∧ P' = P) := by
  refine cx_ofM (by decide) (Nat.le_of_ble_eq_true rfl) (fun p e s m below meth c ls hx hb hr hml hg hown hlocks hin hK hw hl => ?_)
  have hl : lv_has ls 3 [(0, .ref h0), (1, .int (nI j)), (2, .int p2)] := hl
  have hown : s.vm.findClass cn_M = some m.cls := hown
  have hcl : (nI j).toNatClampNeg = j := nI_clamp (by omega)
  refine lv_iload_n hx hb dd_M_canTell_0 rfl (lv_at hl 2 rfl) ?_
  refine lv_aload_n hx hb dd_M_canTell_1 rfl (lv_at hl 0 rfl) ?_
  refine pm_get (ci := 6) (C := cn_M) (T := cf_M) (N := 23) (v := .ref (ma 12)) hx hb hg gu_M hown hK.2.1 hw mw.1 rfl 16 (by decide) (hg _ gf_M_47) (fun _ h9 => h9) rfl dd_M_canTell_2 ?_
  refine lv_iload_n hx hb dd_M_canTell_5 rfl (lv_at hl 1 rfl) ?_
  refine pm_iald hx hb hK.2.1 hw 0 (show P (ma 12) = some (.inl (ac 0, 100, .inl (mv 12))) from mw.2.1 12 (by decide)) rfl (vp_in_nI hj (by decide)) dd_M_canTell_6 ?_
  refine lv_icmp_ge (tgt := 25) hx hb dd_M_canTell_7 (by decide) (fun c31 => ?_) (fun c31 => ?_)
  · skip
    refine lv_iconst (v := 1) hx hb dd_M_canTell_25 (by decide) ?_
    refine lv_goto (tgt := 30) hx hb dd_M_canTell_26 (by decide) ?_
    refine cx_iret (v := (1 : Int32)) hx hb hr (by decide) hlocks hw dd_M_canTell_30 (by decide) (by decide) ?_
    rw [hcl] at c31
    exact ⟨by simp only [hcl, su_mct, if_pos c31], rfl⟩
  · skip
    refine lv_aload_n hx hb dd_M_canTell_10 rfl (lv_at hl 0 rfl) ?_
    refine pm_get (ci := 6) (C := cn_M) (T := cf_M) (N := 23) (v := .ref (ma 12)) hx hb hg gu_M hown hK.2.1 hw mw.1 rfl 16 (by decide) (hg _ gf_M_47) (fun _ h9 => h9) rfl dd_M_canTell_11 ?_
    refine lv_iload_n hx hb dd_M_canTell_14 rfl (lv_at hl 1 rfl) ?_
    refine pm_iald hx hb hK.2.1 hw 0 (show P (ma 12) = some (.inl (ac 0, 100, .inl (mv 12))) from mw.2.1 12 (by decide)) rfl (vp_in_nI hj (by decide)) dd_M_canTell_15 ?_
    refine lv_aload_n hx hb dd_M_canTell_16 rfl (lv_at hl 0 rfl) ?_
    refine pm_get (ci := 6) (C := cn_M) (T := cf_M) (N := 23) (v := .ref (ma 14)) hx hb hg gu_M hown hK.2.1 hw mw.1 rfl 18 (by decide) (hg _ gf_M_53) (fun _ h9 => h9) rfl dd_M_canTell_17 ?_
    refine lv_iload_n hx hb dd_M_canTell_20 rfl (lv_at hl 1 rfl) ?_
    refine pm_iald hx hb hK.2.1 hw 0 (show P (ma 14) = some (.inl (ac 0, 100, .inl (mv 14))) from mw.2.1 14 (by decide)) rfl (vp_in_nI hj (by decide)) dd_M_canTell_21 ?_
    refine lv_icmp_le (tgt := 29) hx hb dd_M_canTell_22 (by decide) (fun c32 => ?_) (fun c32 => ?_)
    · skip
      refine lv_iconst (v := 0) hx hb dd_M_canTell_29 (by decide) ?_
      refine cx_iret (v := (0 : Int32)) hx hb hr (by decide) hlocks hw dd_M_canTell_30 (by decide) (by decide) ?_
      rw [hcl] at c31
      rw [hcl] at c32
      exact ⟨by simp only [hcl, su_mct, if_neg c31, if_pos c32], rfl⟩
    · skip
      refine lv_iconst (v := 1) hx hb dd_M_canTell_25 (by decide) ?_
      refine lv_goto (tgt := 30) hx hb dd_M_canTell_26 (by decide) ?_
      refine cx_iret (v := (1 : Int32)) hx hb hr (by decide) hlocks hw dd_M_canTell_30 (by decide) (by decide) ?_
      rw [hcl] at c31
      rw [hcl] at c32
      exact ⟨by simp only [hcl, su_mct, if_neg c31, if_neg c32], rfl⟩

set_option maxHeartbeats 4000000 in
set_option maxRecDepth 100000 in
theorem c_M_up (l : Launch) (z : Nat) (D : va_G) (ac : Nat → ClassId) (sa : Nat → Nat) (P : pm_T) (h0 : Nat) (ma : Nat → Nat) (mv : Nat → Nat → Int32) (th hn al tn so : Int32) (j : Nat) (p2 : Int32) (hj : j < 100) (mw : md_W P ac h0 ma mv th hn al tn so)  : cx_M l yy_M_up bb_M_up 3 (some .int) ({ frames := 0, cells := 0, slots := 0, locals := 0 } : Room) z D ac sa P [.ref h0, .int (nI j), .int p2] (fun v P' => v = some (.int (su_mup mv j p2)) ∧ P' = P) := by
  refine cx_ofM (by decide) (Nat.le_of_ble_eq_true rfl) (fun p e s m below meth c ls hx hb hr hml hg hown hlocks hin hK hw hl => ?_)
  have hl : lv_has ls 3 [(0, .ref h0), (1, .int (nI j)), (2, .int p2)] := hl
  have hown : s.vm.findClass cn_M = some m.cls := hown
  have hcl : (nI j).toNatClampNeg = j := nI_clamp (by omega)
  refine lv_iload_n hx hb dd_M_up_0 rfl (lv_at hl 2 rfl) ?_
  refine lv_aload_n hx hb dd_M_up_1 rfl (lv_at hl 0 rfl) ?_
  refine pm_get (ci := 6) (C := cn_M) (T := cf_M) (N := 23) (v := .ref (ma 12)) hx hb hg gu_M hown hK.2.1 hw mw.1 rfl 16 (by decide) (hg _ gf_M_47) (fun _ h9 => h9) rfl dd_M_up_2 ?_
  refine lv_iload_n hx hb dd_M_up_5 rfl (lv_at hl 1 rfl) ?_
  refine pm_iald hx hb hK.2.1 hw 0 (show P (ma 12) = some (.inl (ac 0, 100, .inl (mv 12))) from mw.2.1 12 (by decide)) rfl (vp_in_nI hj (by decide)) dd_M_up_6 ?_
  refine lv_icmp_lt (tgt := 14) hx hb dd_M_up_7 (by decide) (fun c31 => ?_) (fun c31 => ?_)
  · skip
    refine lv_aload_n hx hb dd_M_up_14 rfl (lv_at hl 0 rfl) ?_
    refine pm_get (ci := 6) (C := cn_M) (T := cf_M) (N := 23) (v := .ref (ma 13)) hx hb hg gu_M hown hK.2.1 hw mw.1 rfl 17 (by decide) (hg _ gf_M_50) (fun _ h9 => h9) rfl dd_M_up_15 ?_
    refine lv_iload_n hx hb dd_M_up_18 rfl (lv_at hl 1 rfl) ?_
    refine pm_iald hx hb hK.2.1 hw 0 (show P (ma 13) = some (.inl (ac 0, 100, .inl (mv 13))) from mw.2.1 13 (by decide)) rfl (vp_in_nI hj (by decide)) dd_M_up_19 ?_
    refine lv_aload_n hx hb dd_M_up_20 rfl (lv_at hl 0 rfl) ?_
    refine pm_get (ci := 6) (C := cn_M) (T := cf_M) (N := 23) (v := .ref (ma 12)) hx hb hg gu_M hown hK.2.1 hw mw.1 rfl 16 (by decide) (hg _ gf_M_47) (fun _ h9 => h9) rfl dd_M_up_21 ?_
    refine lv_iload_n hx hb dd_M_up_24 rfl (lv_at hl 1 rfl) ?_
    refine pm_iald hx hb hK.2.1 hw 0 (show P (ma 12) = some (.inl (ac 0, 100, .inl (mv 12))) from mw.2.1 12 (by decide)) rfl (vp_in_nI hj (by decide)) dd_M_up_25 ?_
    refine lv_iload_n hx hb dd_M_up_26 rfl (lv_at hl 2 rfl) ?_
    refine lv_isub hx hb dd_M_up_27 ?_
    refine lv_imul hx hb dd_M_up_28 ?_
    refine cx_iret (v := (((mv 13) ((nI j).toNatClampNeg)) * (((mv 12) ((nI j).toNatClampNeg)) - p2))) hx hb hr rfl hlocks hw dd_M_up_29 (by decide) (by decide) ?_
    rw [hcl] at c31
    exact ⟨by simp only [hcl, su_mup, if_pos c31], rfl⟩
  · skip
    refine lv_iconst (v := 0) hx hb dd_M_up_10 (by decide) ?_
    refine lv_goto (tgt := 29) hx hb dd_M_up_11 (by decide) ?_
    refine cx_iret (v := (0 : Int32)) hx hb hr rfl hlocks hw dd_M_up_29 (by decide) (by decide) ?_
    rw [hcl] at c31
    exact ⟨by simp only [hcl, su_mup, if_neg c31], rfl⟩

set_option maxHeartbeats 4000000 in
set_option maxRecDepth 100000 in
theorem c_M_down (l : Launch) (z : Nat) (D : va_G) (ac : Nat → ClassId) (sa : Nat → Nat) (P : pm_T) (h0 : Nat) (ma : Nat → Nat) (mv : Nat → Nat → Int32) (th hn al tn so : Int32) (j : Nat) (p2 : Int32) (hj : j < 100) (mw : md_W P ac h0 ma mv th hn al tn so)  : cx_M l yy_M_down bb_M_down 3 (some .int) ({ frames := 0, cells := 0, slots := 0, locals := 0 } : Room) z D ac sa P [.ref h0, .int (nI j), .int p2] (fun v P' => v = some (.int (su_mdn mv j p2)) ∧ P' = P) := by
  refine cx_ofM (by decide) (Nat.le_of_ble_eq_true rfl) (fun p e s m below meth c ls hx hb hr hml hg hown hlocks hin hK hw hl => ?_)
  have hl : lv_has ls 3 [(0, .ref h0), (1, .int (nI j)), (2, .int p2)] := hl
  have hown : s.vm.findClass cn_M = some m.cls := hown
  have hcl : (nI j).toNatClampNeg = j := nI_clamp (by omega)
  refine lv_iload_n hx hb dd_M_down_0 rfl (lv_at hl 2 rfl) ?_
  refine lv_aload_n hx hb dd_M_down_1 rfl (lv_at hl 0 rfl) ?_
  refine pm_get (ci := 6) (C := cn_M) (T := cf_M) (N := 23) (v := .ref (ma 12)) hx hb hg gu_M hown hK.2.1 hw mw.1 rfl 16 (by decide) (hg _ gf_M_47) (fun _ h9 => h9) rfl dd_M_down_2 ?_
  refine lv_iload_n hx hb dd_M_down_5 rfl (lv_at hl 1 rfl) ?_
  refine pm_iald hx hb hK.2.1 hw 0 (show P (ma 12) = some (.inl (ac 0, 100, .inl (mv 12))) from mw.2.1 12 (by decide)) rfl (vp_in_nI hj (by decide)) dd_M_down_6 ?_
  refine lv_icmp_lt (tgt := 14) hx hb dd_M_down_7 (by decide) (fun c31 => ?_) (fun c31 => ?_)
  · skip
    refine lv_aload_n hx hb dd_M_down_14 rfl (lv_at hl 0 rfl) ?_
    refine pm_get (ci := 6) (C := cn_M) (T := cf_M) (N := 23) (v := .ref (ma 12)) hx hb hg gu_M hown hK.2.1 hw mw.1 rfl 16 (by decide) (hg _ gf_M_47) (fun _ h9 => h9) rfl dd_M_down_15 ?_
    refine lv_iload_n hx hb dd_M_down_18 rfl (lv_at hl 1 rfl) ?_
    refine pm_iald hx hb hK.2.1 hw 0 (show P (ma 12) = some (.inl (ac 0, 100, .inl (mv 12))) from mw.2.1 12 (by decide)) rfl (vp_in_nI hj (by decide)) dd_M_down_19 ?_
    refine lv_aload_n hx hb dd_M_down_20 rfl (lv_at hl 0 rfl) ?_
    refine pm_get (ci := 6) (C := cn_M) (T := cf_M) (N := 23) (v := .ref (ma 14)) hx hb hg gu_M hown hK.2.1 hw mw.1 rfl 18 (by decide) (hg _ gf_M_53) (fun _ h9 => h9) rfl dd_M_down_21 ?_
    refine lv_iload_n hx hb dd_M_down_24 rfl (lv_at hl 1 rfl) ?_
    refine pm_iald hx hb hK.2.1 hw 0 (show P (ma 14) = some (.inl (ac 0, 100, .inl (mv 14))) from mw.2.1 14 (by decide)) rfl (vp_in_nI hj (by decide)) dd_M_down_25 ?_
    refine lv_isub hx hb dd_M_down_26 ?_
    refine cx_iret (v := (((mv 12) ((nI j).toNatClampNeg)) - ((mv 14) ((nI j).toNatClampNeg)))) hx hb hr rfl hlocks hw dd_M_down_27 (by decide) (by decide) ?_
    rw [hcl] at c31
    exact ⟨by simp only [hcl, su_mdn, if_pos c31], rfl⟩
  · skip
    refine lv_iconst (v := 1) hx hb dd_M_down_10 (by decide) ?_
    refine lv_goto (tgt := 27) hx hb dd_M_down_11 (by decide) ?_
    refine cx_iret (v := (1 : Int32)) hx hb hr rfl hlocks hw dd_M_down_27 (by decide) (by decide) ?_
    rw [hcl] at c31
    exact ⟨by simp only [hcl, su_mdn, if_neg c31], rfl⟩

set_option maxHeartbeats 4000000 in
set_option maxRecDepth 100000 in
theorem c_M_counts (l : Launch) (z : Nat) (D : va_G) (ac : Nat → ClassId) (sa : Nat → Nat) (P : pm_T) (h0 : Nat) (ma : Nat → Nat) (mv : Nat → Nat → Int32) (th hn al tn so : Int32) (p1 : Int32) (t : Nat) (ht : t ≤ 100) (hn9 : tn = nI t) (mw : md_W P ac h0 ma mv th hn al tn so)  : cx_M l yy_M_counts bb_M_counts 4 (some .int) ({ frames := 0, cells := 0, slots := 0, locals := 0 } : Room) z D ac sa P [.ref h0, .int p1] (fun v P' => v = some (.int (su_oi (su_cm (mv 10) (mv 11) p1 t))) ∧ P' = P) := by
  refine cx_ofM (by decide) (Nat.le_of_ble_eq_true rfl) (fun p e s m below meth c ls hx hb hr hml hg hown hlocks hin hK hw hl => ?_)
  have hl : lv_has ls 4 [(0, .ref h0), (1, .int p1)] := hl
  have hown : s.vm.findClass cn_M = some m.cls := hown
  have lp : ∀ (n k : Nat), k + n = t → ∀ (c2 : Int32) (H : Heap) (locs : List Loc) (ls : Array Slot), c2 = su_oi (su_cm (mv 10) (mv 11) p1 k) → pm_W z D cl_w P s.heap H locs → lv_has ls 4 [(3, .int (nI k)), (2, .int c2), (0, .ref h0), (1, .int p1)] → W p l e ({ frames := 0, cells := 0, slots := 0, locals := 0 } : Room) s m ([.ref h0, .int p1] : List Value).toArray below meth c H locs 0 0 (MQ below (cx_Q z D (fun v P' => v = some (.int (su_oi (su_cm (mv 10) (mv 11) p1 t))) ∧ P' = P)) ([.ref h0, .int p1] : List Value).toArray s ({ frames := 0, cells := 0, slots := 0, locals := 0 } : Room).cells ({ frames := 0, cells := 0, slots := 0, locals := 0 } : Room).slots (pm_A z)) (F0 m 4 ls []) := by
    intro n
    induction n with
    | zero =>
      intro k hk c2 H locs ls ec hw hl
      have hk : k = t := by omega
      refine lv_iload_n hx hb dd_M_counts_4 rfl (lv_at hl 0 rfl) ?_
      refine lv_aload_n hx hb dd_M_counts_5 rfl (lv_at hl 2 rfl) ?_
      refine pm_get (ci := 6) (C := cn_M) (T := cf_M) (N := 23) (v := .int tn) hx hb hg gu_M hown hK.2.1 hw mw.1 rfl 13 (by decide) (hg _ gf_M_104) (fun _ h9 => h9) rfl dd_M_counts_6 ?_
      refine lv_icmp_ge (tgt := 49) hx hb dd_M_counts_9 (by decide) (fun c31 => ?_) (fun c31 => absurd (by rw [hn9]; exact nI_le (by omega) (by omega)) c31)
      refine lv_iload_n hx hb dd_M_counts_49 rfl (lv_at hl 1 rfl) ?_
      refine cx_iret (v := c2) hx hb hr rfl hlocks hw dd_M_counts_50 (by decide) (by decide) ?_
      exact ⟨by rw [ec, hk], rfl⟩
    | succ n ih =>
      intro k hk c2 H locs ls ec hw hl
      have hlt : k < t := by omega
      have hcl : (nI k).toNatClampNeg = k := nI_clamp (by omega)
      refine lv_iload_n hx hb dd_M_counts_4 rfl (lv_at hl 0 rfl) ?_
      refine lv_aload_n hx hb dd_M_counts_5 rfl (lv_at hl 2 rfl) ?_
      refine pm_get (ci := 6) (C := cn_M) (T := cf_M) (N := 23) (v := .int tn) hx hb hg gu_M hown hK.2.1 hw mw.1 rfl 13 (by decide) (hg _ gf_M_104) (fun _ h9 => h9) rfl dd_M_counts_6 ?_
      refine lv_icmp_ge (tgt := 49) hx hb dd_M_counts_9 (by decide) (fun c32 => absurd c32 (by rw [hn9]; exact nI_ge hlt (by omega))) (fun c32 => ?_)
      refine lv_aload_n hx hb dd_M_counts_12 rfl (lv_at hl 2 rfl) ?_
      refine pm_get (ci := 6) (C := cn_M) (T := cf_M) (N := 23) (v := .ref (ma 10)) hx hb hg gu_M hown hK.2.1 hw mw.1 rfl 14 (by decide) (hg _ gf_M_41) (fun _ h9 => h9) rfl dd_M_counts_13 ?_
      refine lv_iload_n hx hb dd_M_counts_16 rfl (lv_at hl 0 rfl) ?_
      refine pm_iald hx hb hK.2.1 hw 0 (show P (ma 10) = some (.inl (ac 0, 100, .inl (mv 10))) from mw.2.1 10 (by decide)) rfl (vp_in_nI (by omega) (by decide)) dd_M_counts_17 ?_
      refine lv_iload_n hx hb dd_M_counts_18 rfl (lv_at hl 3 rfl) ?_
      refine lv_icmp_ne (tgt := 43) hx hb dd_M_counts_19 (by decide) (fun c33 => ?_) (fun c33 => ?_)
      · skip
        obtain ⟨x34, ex34⟩ : ∃ y : Int32, y = (nI k) + 1 := ⟨_, rfl⟩
        refine lv_iinc (v := x34) (lv' := [(3, .int x34), (2, .int c2), (0, .ref h0), (1, .int p1)]) hx hb dd_M_counts_43 hl (k := 0) rfl (by rw [ex34]; rfl) (by decide) rfl (fun ls hl => ?_)
        refine lv_goto (tgt := 4) hx hb dd_M_counts_46 (by decide) ?_
        have hi7 : x34 = nI (k + 1) := by rw [ex34]; exact nI_1 k
        rw [hi7] at hl
        rw [hcl] at c33
        refine ih (k + 1) (by omega) c2 H _ ls ?_ hw (lv_sub hl [0, 1, 2, 3] rfl)
        rw [ec]; simp only [su_cm, if_neg c33]
      · skip
        rcases hq : su_cm (mv 10) (mv 11) p1 k with _ | i
        · skip
          have hc2 : c2 = -1 := by rw [ec, hq]; rfl
          refine lv_iload_n hx hb dd_M_counts_22 rfl (lv_at hl 1 rfl) ?_
          refine lv_if_lt (tgt := 41) hx hb dd_M_counts_23 (by decide) (fun c35 => ?_) (fun c35 => absurd (by rw [hc2]; decide) c35)
          refine lv_iload_n hx hb dd_M_counts_41 rfl (lv_at hl 0 rfl) ?_
          refine lv_istore_n (lv' := [(2, .int (nI k)), (3, .int (nI k)), (0, .ref h0), (1, .int p1)]) hx hb dd_M_counts_42 rfl hl (by decide) rfl (fun ls hl => ?_)
          obtain ⟨x36, ex36⟩ : ∃ y : Int32, y = (nI k) + 1 := ⟨_, rfl⟩
          refine lv_iinc (v := x36) (lv' := [(3, .int x36), (2, .int (nI k)), (0, .ref h0), (1, .int p1)]) hx hb dd_M_counts_43 hl (k := 1) rfl (by rw [ex36]; rfl) (by decide) rfl (fun ls hl => ?_)
          refine lv_goto (tgt := 4) hx hb dd_M_counts_46 (by decide) ?_
          have hi7 : x36 = nI (k + 1) := by rw [ex36]; exact nI_1 k
          rw [hi7] at hl
          rw [hcl] at c33
          refine ih (k + 1) (by omega) (nI k) H _ ls ?_ hw (lv_sub hl [0, 1, 2, 3] rfl)
          simp only [su_cm, if_pos c33, hq]; rfl
        · skip
          have hc2 : c2 = nI i := by rw [ec, hq]; rfl
          have hik := su_cm_lt hq
          refine lv_iload_n hx hb dd_M_counts_22 rfl (lv_at hl 1 rfl) ?_
          refine lv_if_lt (tgt := 41) hx hb dd_M_counts_23 (by decide) (fun c37 => absurd c37 (by rw [hc2]; exact nI_pos (by omega))) (fun c37 => ?_)
          refine lv_aload_n hx hb dd_M_counts_26 rfl (lv_at hl 2 rfl) ?_
          refine pm_get (ci := 6) (C := cn_M) (T := cf_M) (N := 23) (v := .ref (ma 11)) hx hb hg gu_M hown hK.2.1 hw mw.1 rfl 15 (by decide) (hg _ gf_M_44) (fun _ h9 => h9) rfl dd_M_counts_27 ?_
          refine lv_iload_n hx hb dd_M_counts_30 rfl (lv_at hl 0 rfl) ?_
          refine pm_iald hx hb hK.2.1 hw 0 (show P (ma 11) = some (.inl (ac 0, 100, .inl (mv 11))) from mw.2.1 11 (by decide)) rfl (vp_in_nI (by omega) (by decide)) dd_M_counts_31 ?_
          refine lv_aload_n hx hb dd_M_counts_32 rfl (lv_at hl 2 rfl) ?_
          refine pm_get (ci := 6) (C := cn_M) (T := cf_M) (N := 23) (v := .ref (ma 11)) hx hb hg gu_M hown hK.2.1 hw mw.1 rfl 15 (by decide) (hg _ gf_M_44) (fun _ h9 => h9) rfl dd_M_counts_33 ?_
          refine lv_iload_n hx hb dd_M_counts_36 rfl (lv_at hl 1 rfl) ?_
          refine pm_iald hx hb hK.2.1 hw 0 (show P (ma 11) = some (.inl (ac 0, 100, .inl (mv 11))) from mw.2.1 11 (by decide)) rfl (by rw [hc2]; exact vp_in_nI (by omega) (by decide)) dd_M_counts_37 ?_
          refine lv_icmp_lt (tgt := 43) hx hb dd_M_counts_38 (by decide) (fun c38 => ?_) (fun c38 => ?_)
          · skip
            obtain ⟨x39, ex39⟩ : ∃ y : Int32, y = (nI k) + 1 := ⟨_, rfl⟩
            refine lv_iinc (v := x39) (lv' := [(3, .int x39), (2, .int c2), (0, .ref h0), (1, .int p1)]) hx hb dd_M_counts_43 hl (k := 0) rfl (by rw [ex39]; rfl) (by decide) rfl (fun ls hl => ?_)
            refine lv_goto (tgt := 4) hx hb dd_M_counts_46 (by decide) ?_
            have hi7 : x39 = nI (k + 1) := by rw [ex39]; exact nI_1 k
            rw [hi7] at hl
            rw [hcl] at c33
            refine ih (k + 1) (by omega) c2 H _ ls ?_ hw (lv_sub hl [0, 1, 2, 3] rfl)
            rw [hcl, hc2, nI_clamp (show i < 2 ^ 31 by omega)] at c38
            rw [hc2]; simp only [su_cm, if_pos c33, hq, if_pos c38]; rfl
          · skip
            refine lv_iload_n hx hb dd_M_counts_41 rfl (lv_at hl 0 rfl) ?_
            refine lv_istore_n (lv' := [(2, .int (nI k)), (3, .int (nI k)), (0, .ref h0), (1, .int p1)]) hx hb dd_M_counts_42 rfl hl (by decide) rfl (fun ls hl => ?_)
            obtain ⟨x40, ex40⟩ : ∃ y : Int32, y = (nI k) + 1 := ⟨_, rfl⟩
            refine lv_iinc (v := x40) (lv' := [(3, .int x40), (2, .int (nI k)), (0, .ref h0), (1, .int p1)]) hx hb dd_M_counts_43 hl (k := 1) rfl (by rw [ex40]; rfl) (by decide) rfl (fun ls hl => ?_)
            refine lv_goto (tgt := 4) hx hb dd_M_counts_46 (by decide) ?_
            have hi7 : x40 = nI (k + 1) := by rw [ex40]; exact nI_1 k
            rw [hi7] at hl
            rw [hcl] at c33
            refine ih (k + 1) (by omega) (nI k) H _ ls ?_ hw (lv_sub hl [0, 1, 2, 3] rfl)
            rw [hcl, hc2, nI_clamp (show i < 2 ^ 31 by omega)] at c38
            simp only [su_cm, if_pos c33, hq, if_neg c38]; rfl
  refine lv_iconst (v := (-1)) hx hb dd_M_counts_0 (by decide) ?_
  refine lv_istore_n (lv' := [(2, .int (-1 : Int32)), (0, .ref h0), (1, .int p1)]) hx hb dd_M_counts_1 rfl hl (by decide) rfl (fun ls hl => ?_)
  refine lv_iconst (v := 0) hx hb dd_M_counts_2 (by decide) ?_
  refine lv_istore_n (lv' := [(3, .int (0 : Int32)), (2, .int (-1 : Int32)), (0, .ref h0), (1, .int p1)]) hx hb dd_M_counts_3 rfl hl (by decide) rfl (fun ls hl => ?_)
  exact lp t 0 (Nat.zero_add t) (-1) _ _ ls rfl hw (lv_sub hl [0, 1, 2, 3] rfl)
