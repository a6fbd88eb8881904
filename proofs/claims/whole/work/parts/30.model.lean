/-! the model's cells -/
def md_n (k : Nat) : Nat := match k with
  | 0 => 40
  | 1 => 40
  | 2 => 40
  | 3 => 40
  | 4 => 40
  | 5 => 40
  | 6 => 120
  | 7 => 120
  | 8 => 480
  | 9 => 20
  | 10 => 100
  | 11 => 100
  | 12 => 100
  | 13 => 100
  | 14 => 100
  | 15 => 6
  | 16 => 6
  | _ => 6
def md_a (ac : Nat → ClassId) (k : Nat) (f : Nat → Int32) : va_E := .inl ((if k = 8 then ac 2 else ac 0), md_n k, .inl f)
abbrev md_o (ma : Nat → Nat) (th hn al tn so : Int32) : va_E := .inr (6, [.int th, .int hn, .ref (ma 0), .ref (ma 1), .ref (ma 2), .ref (ma 3), .ref (ma 4), .ref (ma 5), .ref (ma 6), .ref (ma 7), .ref (ma 8), .ref (ma 9), .int al, .int tn, .ref (ma 10), .ref (ma 11), .ref (ma 12), .ref (ma 13), .ref (ma 14), .int so, .ref (ma 15), .ref (ma 16), .ref (ma 17)])
def md_W (P : pm_T) (ac : Nat → ClassId) (h0 : Nat) (ma : Nat → Nat) (mv : Nat → Nat → Int32) (th hn al tn so : Int32) : Prop := P h0 = some (md_o ma th hn al tn so) ∧ (∀ k, k < 18 → P (ma k) = some (md_a ac k (mv k))) ∧ ∀ i j, i < 18 → j < 18 → ma i = ma j → i = j
def md_F (P Q : pm_T) (h0 : Nat) (ma : Nat → Nat) : Prop := ∀ a, a ≠ h0 → (∀ k, k < 18 → a ≠ ma k) → Q a = P a
theorem md_F.rf {P : pm_T} {h0 : Nat} {ma : Nat → Nat} : md_F P P h0 ma := fun _ _ _ => rfl
theorem md_F.tr {P Q R : pm_T} {h0 : Nat} {ma : Nat → Nat} (h1 : md_F P Q h0 ma) (h2 : md_F Q R h0 ma) : md_F P R h0 ma := fun a g1 g2 => (h2 a g1 g2).trans (h1 a g1 g2)
section MD
variable {P : pm_T} {ac : Nat → ClassId} {h0 : Nat} {ma : Nat → Nat} {mv : Nat → Nat → Int32} {th hn al tn so : Int32}
theorem md_W.ne (h : md_W P ac h0 ma mv th hn al tn so) {k : Nat} (hk : k < 18) : h0 ≠ ma k := pm_ne h.1 (h.2.1 k hk) (fun h9 => nomatch h9)
theorem md_W.obj (h : md_W P ac h0 ma mv th hn al tn so) {th' hn' al' tn' so' : Int32} : md_W (pm_up P h0 (md_o ma th' hn' al' tn' so')) ac h0 ma mv th' hn' al' tn' so' := ⟨pm_s, fun k hk => by rw [pm_n (Ne.symm (h.ne hk))]; exact h.2.1 k hk, h.2.2⟩
theorem md_F.obj {Q : pm_T} {x : va_E} (h : md_F P Q h0 ma) : md_F P (pm_up Q h0 x) h0 ma := fun a g1 g2 => by rw [pm_n g1]; exact h a g1 g2
theorem md_F.put {Q : pm_T} {x : va_E} {k : Nat} (hk : k < 18) (h : md_F P Q h0 ma) : md_F P (pm_up Q (ma k) x) h0 ma := fun a g1 g2 => by rw [pm_n (g2 k hk)]; exact h a g1 g2
theorem md_W.put (h : md_W P ac h0 ma mv th hn al tn so) (k : Nat) (hk : k < 18) {f : Nat → Int32} : md_W (pm_up P (ma k) (md_a ac k f)) ac h0 ma (va_up mv k f) th hn al tn so := by
  refine ⟨by rw [pm_n (h.ne hk)]; exact h.1, fun j hj => ?_, h.2.2⟩
  by_cases hjk : j = k
  · subst hjk
    rw [pm_s]
    simp only [va_up, if_true]
  · rw [pm_n (fun e => hjk (h.2.2 j k hj hk e)), h.2.1 j hj]
    simp only [va_up, if_neg hjk]
end MD
/-- the model's small ones -/
def su_in (v a b : Int32) : Int32 := if v < a then 0 else if b < v then 0 else 1
def su_gs (a b c d : Int32) : Int32 := if a = 0 then 1 else if b = 0 then 2 else if c = 0 then 3 else if d = 0 then 4 else 0
theorem su_in01 {v a b : Int32} : narrow .boolean (.int (su_in v a b)) = .int (su_in v a b) := by
  unfold su_in
  by_cases h1 : v < a
  · rw [if_pos h1]; decide
  · rw [if_neg h1]
    by_cases h2 : b < v
    · rw [if_pos h2]; decide
    · rw [if_neg h2]; decide

set_option maxHeartbeats 4000000 in
set_option maxRecDepth 100000 in
theorem c_M_in (l : Launch) (z : Nat) (D : va_G) (ac : Nat → ClassId) (sa : Nat → Nat) (P : pm_T) (p0 p1 p2 : Int32)  : cx_M l yy_M_in bb_M_in 3 (some .boolean) ({ frames := 0, cells := 0, slots := 0, locals := 0 } : Room) z D ac sa P [.int p0, .int p1, .int p2] (fun v P' => v = some (.int (su_in p0 p1 p2)) ∧ P' = P) := by
  refine cx_ofM (by decide) (Nat.le_of_ble_eq_true rfl) (fun p e s m below meth c ls hx hb hr hml hg hown hlocks hin hK hw hl => ?_)
  have hl : lv_has ls 3 [(0, .int p0), (1, .int p1), (2, .int p2)] := hl
  have hown : s.vm.findClass cn_M = some m.cls := hown
  refine lv_iload_n hx hb dd_M_in_0 rfl (lv_at hl 0 rfl) ?_
  refine lv_iload_n hx hb dd_M_in_1 rfl (lv_at hl 1 rfl) ?_
  refine lv_icmp_lt (tgt := 14) hx hb dd_M_in_2 (by decide) (fun c31 => ?_) (fun c31 => ?_)
  · skip
    refine lv_iconst (v := 0) hx hb dd_M_in_14 (by decide) ?_
    refine cx_iret (v := (0 : Int32)) hx hb hr (by decide) hlocks hw dd_M_in_15 (by decide) (by decide) ?_
    exact ⟨by simp only [su_in, if_pos c31], rfl⟩
  · skip
    refine lv_iload_n hx hb dd_M_in_5 rfl (lv_at hl 0 rfl) ?_
    refine lv_iload_n hx hb dd_M_in_6 rfl (lv_at hl 2 rfl) ?_
    refine lv_icmp_gt (tgt := 14) hx hb dd_M_in_7 (by decide) (fun c32 => ?_) (fun c32 => ?_)
    · skip
      refine lv_iconst (v := 0) hx hb dd_M_in_14 (by decide) ?_
      refine cx_iret (v := (0 : Int32)) hx hb hr (by decide) hlocks hw dd_M_in_15 (by decide) (by decide) ?_
      exact ⟨by simp only [su_in, if_neg c31, if_pos c32], rfl⟩
    · skip
      refine lv_iconst (v := 1) hx hb dd_M_in_10 (by decide) ?_
      refine lv_goto (tgt := 15) hx hb dd_M_in_11 (by decide) ?_
      refine cx_iret (v := (1 : Int32)) hx hb hr (by decide) hlocks hw dd_M_in_15 (by decide) (by decide) ?_
      exact ⟨by simp only [su_in, if_neg c31, if_neg c32], rfl⟩

set_option maxHeartbeats 4000000 in
set_option maxRecDepth 100000 in
theorem c_M_isDay (l : Launch) (z : Nat) (D : va_G) (ac : Nat → ClassId) (sa : Nat → Nat) (P : pm_T) (p0 : Int32)  : cx_M l yy_M_isDay bb_M_isDay 1 (some .boolean) ({ frames := 1, cells := 0, slots := 0, locals := 22 } : Room) z D ac sa P [.int p0] (fun v P' => v = some (.int (su_in p0 0 99999)) ∧ P' = P) := by
  refine cx_ofM (by decide) (Nat.le_of_ble_eq_true rfl) (fun p e s m below meth c ls hx hb hr hml hg hown hlocks hin hK hw hl => ?_)
  have hl : lv_has ls 1 [(0, .int p0)] := hl
  have hown : s.vm.findClass cn_M = some m.cls := hown
  refine lv_iload_n hx hb dd_M_isDay_0 rfl (lv_at hl 0 rfl) ?_
  refine lv_iconst (v := 0) hx hb dd_M_isDay_1 (by decide) ?_
  refine lv_ldc (v := (99999)) hx hb hown (hg _ gq_M_78) dd_M_isDay_2 ?_
  refine cx_after (cx_rS (n := 3) (As := [.int p0, .int (0 : Int32), .int (99999 : Int32)]) (rest := []) ⟨hx, hb, hml, hown, hg⟩ (c_M_in l z D ac sa P p0 (0 : Int32) (99999 : Int32)) (cx_gs gm_M_72 gt_M_in gn_M gc_M_in) (by decide +kernel) ⟨by decide, by decide⟩ hK hw rfl hl.1 rfl (Nat.le_of_ble_eq_true rfl) dd_M_isDay_4 ⟨by decide, by decide⟩) hw (fun v9 P9 H locs hp hw => ?_)
  obtain ⟨rfl, e9⟩ := hp
  rw [e9] at hw
  clear e9 P9
  refine W.eq (g2 := F0 m 7 ls [.int (su_in p0 (0 : Int32) (99999 : Int32))]) rfl ?_
  refine cx_iret (v := (su_in p0 (0 : Int32) (99999 : Int32))) hx hb hr (su_in01) hlocks hw dd_M_isDay_7 (by decide) (by decide) ?_
  exact ⟨rfl, rfl⟩

set_option maxHeartbeats 4000000 in
set_option maxRecDepth 100000 in
theorem c_M_isPressure (l : Launch) (z : Nat) (D : va_G) (ac : Nat → ClassId) (sa : Nat → Nat) (P : pm_T) (p0 : Int32)  : cx_M l yy_M_isPressure bb_M_isPressure 1 (some .boolean) ({ frames := 1, cells := 0, slots := 0, locals := 22 } : Room) z D ac sa P [.int p0] (fun v P' => v = some (.int (su_in p0 0 2000)) ∧ P' = P) := by
  refine cx_ofM (by decide) (Nat.le_of_ble_eq_true rfl) (fun p e s m below meth c ls hx hb hr hml hg hown hlocks hin hK hw hl => ?_)
  have hl : lv_has ls 1 [(0, .int p0)] := hl
  have hown : s.vm.findClass cn_M = some m.cls := hown
  refine lv_iload_n hx hb dd_M_isPressure_0 rfl (lv_at hl 0 rfl) ?_
  refine lv_iconst (v := 0) hx hb dd_M_isPressure_1 (by decide) ?_
  refine lv_sipush (v := 2000) hx hb dd_M_isPressure_2 (by decide) ?_
  refine cx_after (cx_rS (n := 3) (As := [.int p0, .int (0 : Int32), .int (2000 : Int32)]) (rest := []) ⟨hx, hb, hml, hown, hg⟩ (c_M_in l z D ac sa P p0 (0 : Int32) (2000 : Int32)) (cx_gs gm_M_72 gt_M_in gn_M gc_M_in) (by decide +kernel) ⟨by decide, by decide⟩ hK hw rfl hl.1 rfl (Nat.le_of_ble_eq_true rfl) dd_M_isPressure_5 ⟨by decide, by decide⟩) hw (fun v9 P9 H locs hp hw => ?_)
  obtain ⟨rfl, e9⟩ := hp
  rw [e9] at hw
  clear e9 P9
  refine W.eq (g2 := F0 m 8 ls [.int (su_in p0 (0 : Int32) (2000 : Int32))]) rfl ?_
  refine cx_iret (v := (su_in p0 (0 : Int32) (2000 : Int32))) hx hb hr (su_in01) hlocks hw dd_M_isPressure_8 (by decide) (by decide) ?_
  exact ⟨rfl, rfl⟩

set_option maxHeartbeats 4000000 in
set_option maxRecDepth 100000 in
theorem c_M_isFlow (l : Launch) (z : Nat) (D : va_G) (ac : Nat → ClassId) (sa : Nat → Nat) (P : pm_T) (p0 : Int32)  : cx_M l yy_M_isFlow bb_M_isFlow 1 (some .boolean) ({ frames := 1, cells := 0, slots := 0, locals := 22 } : Room) z D ac sa P [.int p0] (fun v P' => v = some (.int (su_in p0 0 20000)) ∧ P' = P) := by
  refine cx_ofM (by decide) (Nat.le_of_ble_eq_true rfl) (fun p e s m below meth c ls hx hb hr hml hg hown hlocks hin hK hw hl => ?_)
  have hl : lv_has ls 1 [(0, .int p0)] := hl
  have hown : s.vm.findClass cn_M = some m.cls := hown
  refine lv_iload_n hx hb dd_M_isFlow_0 rfl (lv_at hl 0 rfl) ?_
  refine lv_iconst (v := 0) hx hb dd_M_isFlow_1 (by decide) ?_
  refine lv_sipush (v := 20000) hx hb dd_M_isFlow_2 (by decide) ?_
  refine cx_after (cx_rS (n := 3) (As := [.int p0, .int (0 : Int32), .int (20000 : Int32)]) (rest := []) ⟨hx, hb, hml, hown, hg⟩ (c_M_in l z D ac sa P p0 (0 : Int32) (20000 : Int32)) (cx_gs gm_M_72 gt_M_in gn_M gc_M_in) (by decide +kernel) ⟨by decide, by decide⟩ hK hw rfl hl.1 rfl (Nat.le_of_ble_eq_true rfl) dd_M_isFlow_5 ⟨by decide, by decide⟩) hw (fun v9 P9 H locs hp hw => ?_)
  obtain ⟨rfl, e9⟩ := hp
  rw [e9] at hw
  clear e9 P9
  refine W.eq (g2 := F0 m 8 ls [.int (su_in p0 (0 : Int32) (20000 : Int32))]) rfl ?_
  refine cx_iret (v := (su_in p0 (0 : Int32) (20000 : Int32))) hx hb hr (su_in01) hlocks hw dd_M_isFlow_8 (by decide) (by decide) ?_
  exact ⟨rfl, rfl⟩

def su_pm (a b : Int32) : Int32 := if su_in a (-50000) 50000 = 0 then 0 else if su_in b (-50000) 50000 = 0 then 0 else 1

set_option maxHeartbeats 4000000 in
set_option maxRecDepth 100000 in
theorem c_M_isPlace (l : Launch) (z : Nat) (D : va_G) (ac : Nat → ClassId) (sa : Nat → Nat) (P : pm_T) (p0 p1 : Int32)  : cx_M l yy_M_isPlace bb_M_isPlace 2 (some .boolean) ({ frames := 1, cells := 0, slots := 0, locals := 22 } : Room) z D ac sa P [.int p0, .int p1] (fun v P' => v = some (.int (su_pm p0 p1)) ∧ P' = P) := by
  refine cx_ofM (by decide) (Nat.le_of_ble_eq_true rfl) (fun p e s m below meth c ls hx hb hr hml hg hown hlocks hin hK hw hl => ?_)
  have hl : lv_has ls 2 [(0, .int p0), (1, .int p1)] := hl
  have hown : s.vm.findClass cn_M = some m.cls := hown
  refine lv_iload_n hx hb dd_M_isPlace_0 rfl (lv_at hl 0 rfl) ?_
  refine lv_ldc (v := (-50000)) hx hb hown (hg _ gq_M_76) dd_M_isPlace_1 ?_
  refine lv_ldc (v := (50000)) hx hb hown (hg _ gq_M_77) dd_M_isPlace_3 ?_
  refine cx_after (cx_rS (n := 3) (As := [.int p0, .int (-50000 : Int32), .int (50000 : Int32)]) (rest := []) ⟨hx, hb, hml, hown, hg⟩ (c_M_in l z D ac sa P p0 (-50000 : Int32) (50000 : Int32)) (cx_gs gm_M_72 gt_M_in gn_M gc_M_in) (by decide +kernel) ⟨by decide, by decide⟩ hK hw rfl hl.1 rfl (Nat.le_of_ble_eq_true rfl) dd_M_isPlace_5 ⟨by decide, by decide⟩) hw (fun v9 P9 H locs hp hw => ?_)
  obtain ⟨rfl, e9⟩ := hp
  rw [e9] at hw
  clear e9 P9
  refine W.eq (g2 := F0 m 8 ls [.int (su_in p0 (-50000 : Int32) (50000 : Int32))]) rfl ?_
  refine lv_if_eq (tgt := 26) hx hb dd_M_isPlace_8 (by decide) (fun c31 => ?_) (fun c31 => ?_)
  · skip
    refine lv_iconst (v := 0) hx hb dd_M_isPlace_26 (by decide) ?_
    refine cx_iret (v := (0 : Int32)) hx hb hr (by decide) hlocks hw dd_M_isPlace_27 (by decide) (by decide) ?_
    exact ⟨by simp only [su_pm, if_pos c31], rfl⟩
  · skip
    refine lv_iload_n hx hb dd_M_isPlace_11 rfl (lv_at hl 1 rfl) ?_
    refine lv_ldc (v := (-50000)) hx hb hown (hg _ gq_M_76) dd_M_isPlace_12 ?_
    refine lv_ldc (v := (50000)) hx hb hown (hg _ gq_M_77) dd_M_isPlace_14 ?_
    refine cx_after (cx_rS (n := 3) (As := [.int p1, .int (-50000 : Int32), .int (50000 : Int32)]) (rest := []) ⟨hx, hb, hml, hown, hg⟩ (c_M_in l z D ac sa P p1 (-50000 : Int32) (50000 : Int32)) (cx_gs gm_M_72 gt_M_in gn_M gc_M_in) (by decide +kernel) ⟨by decide, by decide⟩ hK hw rfl hl.1 rfl (Nat.le_of_ble_eq_true rfl) dd_M_isPlace_16 ⟨by decide, by decide⟩) hw (fun v9 P9 H locs hp hw => ?_)
    obtain ⟨rfl, e9⟩ := hp
    rw [e9] at hw
    clear e9 P9
    refine W.eq (g2 := F0 m 19 ls [.int (su_in p1 (-50000 : Int32) (50000 : Int32))]) rfl ?_
    refine lv_if_eq (tgt := 26) hx hb dd_M_isPlace_19 (by decide) (fun c32 => ?_) (fun c32 => ?_)
    · skip
      refine lv_iconst (v := 0) hx hb dd_M_isPlace_26 (by decide) ?_
      refine cx_iret (v := (0 : Int32)) hx hb hr (by decide) hlocks hw dd_M_isPlace_27 (by decide) (by decide) ?_
      exact ⟨by simp only [su_pm, if_neg c31, if_pos c32], rfl⟩
    · skip
      refine lv_iconst (v := 1) hx hb dd_M_isPlace_22 (by decide) ?_
      refine lv_goto (tgt := 27) hx hb dd_M_isPlace_23 (by decide) ?_
      refine cx_iret (v := (1 : Int32)) hx hb hr (by decide) hlocks hw dd_M_isPlace_27 (by decide) (by decide) ?_
      exact ⟨by simp only [su_pm, if_neg c31, if_neg c32], rfl⟩

set_option maxHeartbeats 4000000 in
set_option maxRecDepth 100000 in
theorem c_M_thrown (l : Launch) (z : Nat) (D : va_G) (ac : Nat → ClassId) (sa : Nat → Nat) (P : pm_T) (h0 : Nat) (ma : Nat → Nat) (mv : Nat → Nat → Int32) (th hn al tn so : Int32)  (mw : md_W P ac h0 ma mv th hn al tn so)  : cx_M l yy_M_thrown bb_M_thrown 1 (some .int) ({ frames := 0, cells := 0, slots := 0, locals := 0 } : Room) z D ac sa P [.ref h0] (fun v P' => v = some (.int th) ∧ P' = P) := by
  refine cx_ofM (by decide) (Nat.le_of_ble_eq_true rfl) (fun p e s m below meth c ls hx hb hr hml hg hown hlocks hin hK hw hl => ?_)
  have hl : lv_has ls 1 [(0, .ref h0)] := hl
  have hown : s.vm.findClass cn_M = some m.cls := hown
  refine lv_aload_n hx hb dd_M_thrown_0 rfl (lv_at hl 0 rfl) ?_
  refine pm_get (ci := 6) (C := cn_M) (T := cf_M) (N := 23) (v := .int th) hx hb hg gu_M hown hK.2.1 hw mw.1 rfl 0 (by decide) (hg _ gf_M_65) (fun _ h9 => h9) rfl dd_M_thrown_1 ?_
  refine cx_iret (v := th) hx hb hr rfl hlocks hw dd_M_thrown_4 (by decide) (by decide) ?_
  exact ⟨rfl, rfl⟩

set_option maxHeartbeats 4000000 in
set_option maxRecDepth 100000 in
theorem c_M_isHydrant (l : Launch) (z : Nat) (D : va_G) (ac : Nat → ClassId) (sa : Nat → Nat) (P : pm_T) (h0 : Nat) (ma : Nat → Nat) (mv : Nat → Nat → Int32) (th hn al tn so : Int32) (p1 : Int32) (mw : md_W P ac h0 ma mv th hn al tn so)  : cx_M l yy_M_isHydrant bb_M_isHydrant 2 (some .boolean) ({ frames := 1, cells := 0, slots := 0, locals := 22 } : Room) z D ac sa P [.ref h0, .int p1] (fun v P' => v = some (.int (su_in p1 0 (hn - 1))) ∧ P' = P) := by
  refine cx_ofM (by decide) (Nat.le_of_ble_eq_true rfl) (fun p e s m below meth c ls hx hb hr hml hg hown hlocks hin hK hw hl => ?_)
  have hl : lv_has ls 2 [(0, .ref h0), (1, .int p1)] := hl
  have hown : s.vm.findClass cn_M = some m.cls := hown
  refine lv_iload_n hx hb dd_M_isHydrant_0 rfl (lv_at hl 1 rfl) ?_
  refine lv_iconst (v := 0) hx hb dd_M_isHydrant_1 (by decide) ?_
  refine lv_aload_n hx hb dd_M_isHydrant_2 rfl (lv_at hl 0 rfl) ?_
  refine pm_get (ci := 6) (C := cn_M) (T := cf_M) (N := 23) (v := .int hn) hx hb hg gu_M hown hK.2.1 hw mw.1 rfl 1 (by decide) (hg _ gf_M_69) (fun _ h9 => h9) rfl dd_M_isHydrant_3 ?_
  refine lv_iconst (v := 1) hx hb dd_M_isHydrant_6 (by decide) ?_
  refine lv_isub hx hb dd_M_isHydrant_7 ?_
  refine cx_after (cx_rS (n := 3) (As := [.int p1, .int (0 : Int32), .int (hn - (1 : Int32))]) (rest := []) ⟨hx, hb, hml, hown, hg⟩ (c_M_in l z D ac sa P p1 (0 : Int32) (hn - (1 : Int32))) (cx_gs gm_M_72 gt_M_in gn_M gc_M_in) (by decide +kernel) ⟨by decide, by decide⟩ hK hw rfl hl.1 rfl (Nat.le_of_ble_eq_true rfl) dd_M_isHydrant_8 ⟨by decide, by decide⟩) hw (fun v9 P9 H locs hp hw => ?_)
  obtain ⟨rfl, e9⟩ := hp
  rw [e9] at hw
  clear e9 P9
  refine W.eq (g2 := F0 m 11 ls [.int (su_in p1 (0 : Int32) (hn - (1 : Int32)))]) rfl ?_
  refine cx_iret (v := (su_in p1 (0 : Int32) (hn - (1 : Int32)))) hx hb hr (su_in01) hlocks hw dd_M_isHydrant_11 (by decide) (by decide) ?_
  exact ⟨rfl, rfl⟩

set_option maxHeartbeats 4000000 in
set_option maxRecDepth 100000 in
theorem c_M_goes (l : Launch) (z : Nat) (D : va_G) (ac : Nat → ClassId) (sa : Nat → Nat) (P : pm_T) (h0 : Nat) (ma : Nat → Nat) (mv : Nat → Nat → Int32) (th hn al tn so : Int32) (p1 p2 p3 p4 : Int32) (mw : md_W P ac h0 ma mv th hn al tn so)  : cx_M l yy_M_goes bb_M_goes 5 (some .boolean) ({ frames := 0, cells := 0, slots := 0, locals := 0 } : Room) z D ac sa P [.ref h0, .int p1, .int p2, .int p3, .int p4] (fun v P' => v = some (.int (if su_gs p1 p2 p3 p4 = 0 then 1 else 0)) ∧ P' = pm_up P h0 (md_o ma (su_gs p1 p2 p3 p4) hn al tn so)) := by
  refine cx_ofM (by decide) (Nat.le_of_ble_eq_true rfl) (fun p e s m below meth c ls hx hb hr hml hg hown hlocks hin hK hw hl => ?_)
  have hl : lv_has ls 5 [(0, .ref h0), (1, .int p1), (2, .int p2), (3, .int p3), (4, .int p4)] := hl
  have hown : s.vm.findClass cn_M = some m.cls := hown
  refine lv_aload_n hx hb dd_M_goes_0 rfl (lv_at hl 0 rfl) ?_
  refine lv_iload_n hx hb dd_M_goes_1 rfl (lv_at hl 1 rfl) ?_
  refine lv_if_ne (tgt := 9) hx hb dd_M_goes_2 (by decide) (fun c31 => ?_) (fun c31 => ?_)
  · skip
    refine lv_iload_n hx hb dd_M_goes_9 rfl (lv_at hl 2 rfl) ?_
    refine lv_if_ne (tgt := 17) hx hb dd_M_goes_10 (by decide) (fun c32 => ?_) (fun c32 => ?_)
    · skip
      refine lv_iload_n hx hb dd_M_goes_17 rfl (lv_at hl 3 rfl) ?_
      refine lv_if_ne (tgt := 25) hx hb dd_M_goes_18 (by decide) (fun c33 => ?_) (fun c33 => ?_)
      · skip
        refine lv_iload hx hb dd_M_goes_25 (lv_at hl 4 rfl) ?_
        refine lv_if_ne (tgt := 34) hx hb dd_M_goes_27 (by decide) (fun c34 => ?_) (fun c34 => ?_)
        · skip
          refine lv_iconst (v := 0) hx hb dd_M_goes_34 (by decide) ?_
          refine pm_put (ci := 6) (v := .int (0 : Int32)) (ty := .int) (C := cn_M) (T := cf_M) (N := 23) hx hb hg gu_M ct_M co_M cm_M hown hK.2.1 hw mw.1 rfl 0 (by decide) (hg _ gf_M_65) (fun _ h9 => h9) rfl (by decide +kernel) rfl rfl (Nat.le_of_ble_eq_true rfl) dd_M_goes_35 (fun H locs hw => ?_)
          obtain ⟨P35, eP35⟩ : ∃ pmv : pm_T, pmv = pm_up P h0 (md_o ma (0 : Int32) hn al tn so) := ⟨_, rfl⟩
          have hw : pm_W z D cl_w (pm_up P h0 (md_o ma (0 : Int32) hn al tn so)) s.heap H _ := hw
          rw [← eP35] at hw
          have mwP35 : md_W P35 ac h0 ma mv (0 : Int32) hn al tn so := by rw [eP35]; exact md_W.obj mw
          have mfP35 : md_F P P35 h0 ma := by rw [eP35]; exact md_F.obj md_F.rf
          refine lv_aload_n hx hb dd_M_goes_38 rfl (lv_at hl 0 rfl) ?_
          refine pm_get (ci := 6) (C := cn_M) (T := cf_M) (N := 23) (v := .int (0 : Int32)) hx hb hg gu_M hown hK.2.1 hw mwP35.1 rfl 0 (by decide) (hg _ gf_M_65) (fun _ h9 => h9) rfl dd_M_goes_39 ?_
          refine lv_if_ne (tgt := 49) hx hb dd_M_goes_42 (by decide) (fun c36 => absurd (by decide) c36) (fun c36 => ?_)
          refine lv_iconst (v := 1) hx hb dd_M_goes_45 (by decide) ?_
          refine lv_goto (tgt := 50) hx hb dd_M_goes_46 (by decide) ?_
          refine cx_iret (v := (1 : Int32)) hx hb hr (by decide) hlocks hw dd_M_goes_50 (by decide) (by decide) ?_
          have hgs : su_gs p1 p2 p3 p4 = (0 : Int32) := by rw [su_gs, if_neg c31, if_neg c32, if_neg c33, if_neg c34]
          exact ⟨by rw [hgs]; rfl, by rw [hgs, eP35]⟩
        · skip
          refine lv_iconst (v := 4) hx hb dd_M_goes_30 (by decide) ?_
          refine lv_goto (tgt := 35) hx hb dd_M_goes_31 (by decide) ?_
          refine pm_put (ci := 6) (v := .int (4 : Int32)) (ty := .int) (C := cn_M) (T := cf_M) (N := 23) hx hb hg gu_M ct_M co_M cm_M hown hK.2.1 hw mw.1 rfl 0 (by decide) (hg _ gf_M_65) (fun _ h9 => h9) rfl (by decide +kernel) rfl rfl (Nat.le_of_ble_eq_true rfl) dd_M_goes_35 (fun H locs hw => ?_)
          obtain ⟨P37, eP37⟩ : ∃ pmv : pm_T, pmv = pm_up P h0 (md_o ma (4 : Int32) hn al tn so) := ⟨_, rfl⟩
          have hw : pm_W z D cl_w (pm_up P h0 (md_o ma (4 : Int32) hn al tn so)) s.heap H _ := hw
          rw [← eP37] at hw
          have mwP37 : md_W P37 ac h0 ma mv (4 : Int32) hn al tn so := by rw [eP37]; exact md_W.obj mw
          have mfP37 : md_F P P37 h0 ma := by rw [eP37]; exact md_F.obj md_F.rf
          refine lv_aload_n hx hb dd_M_goes_38 rfl (lv_at hl 0 rfl) ?_
          refine pm_get (ci := 6) (C := cn_M) (T := cf_M) (N := 23) (v := .int (4 : Int32)) hx hb hg gu_M hown hK.2.1 hw mwP37.1 rfl 0 (by decide) (hg _ gf_M_65) (fun _ h9 => h9) rfl dd_M_goes_39 ?_
          refine lv_if_ne (tgt := 49) hx hb dd_M_goes_42 (by decide) (fun c38 => ?_) (fun c38 => absurd c38 (by decide))
          refine lv_iconst (v := 0) hx hb dd_M_goes_49 (by decide) ?_
          refine cx_iret (v := (0 : Int32)) hx hb hr (by decide) hlocks hw dd_M_goes_50 (by decide) (by decide) ?_
          have hgs : su_gs p1 p2 p3 p4 = (4 : Int32) := by rw [su_gs, if_neg c31, if_neg c32, if_neg c33, if_pos c34]
          exact ⟨by rw [hgs]; rfl, by rw [hgs, eP37]⟩
      · skip
        refine lv_iconst (v := 3) hx hb dd_M_goes_21 (by decide) ?_
        refine lv_goto (tgt := 35) hx hb dd_M_goes_22 (by decide) ?_
        refine pm_put (ci := 6) (v := .int (3 : Int32)) (ty := .int) (C := cn_M) (T := cf_M) (N := 23) hx hb hg gu_M ct_M co_M cm_M hown hK.2.1 hw mw.1 rfl 0 (by decide) (hg _ gf_M_65) (fun _ h9 => h9) rfl (by decide +kernel) rfl rfl (Nat.le_of_ble_eq_true rfl) dd_M_goes_35 (fun H locs hw => ?_)
        obtain ⟨P39, eP39⟩ : ∃ pmv : pm_T, pmv = pm_up P h0 (md_o ma (3 : Int32) hn al tn so) := ⟨_, rfl⟩
        have hw : pm_W z D cl_w (pm_up P h0 (md_o ma (3 : Int32) hn al tn so)) s.heap H _ := hw
        rw [← eP39] at hw
        have mwP39 : md_W P39 ac h0 ma mv (3 : Int32) hn al tn so := by rw [eP39]; exact md_W.obj mw
        have mfP39 : md_F P P39 h0 ma := by rw [eP39]; exact md_F.obj md_F.rf
        refine lv_aload_n hx hb dd_M_goes_38 rfl (lv_at hl 0 rfl) ?_
        refine pm_get (ci := 6) (C := cn_M) (T := cf_M) (N := 23) (v := .int (3 : Int32)) hx hb hg gu_M hown hK.2.1 hw mwP39.1 rfl 0 (by decide) (hg _ gf_M_65) (fun _ h9 => h9) rfl dd_M_goes_39 ?_
        refine lv_if_ne (tgt := 49) hx hb dd_M_goes_42 (by decide) (fun c40 => ?_) (fun c40 => absurd c40 (by decide))
        refine lv_iconst (v := 0) hx hb dd_M_goes_49 (by decide) ?_
        refine cx_iret (v := (0 : Int32)) hx hb hr (by decide) hlocks hw dd_M_goes_50 (by decide) (by decide) ?_
        have hgs : su_gs p1 p2 p3 p4 = (3 : Int32) := by rw [su_gs, if_neg c31, if_neg c32, if_pos c33]
        exact ⟨by rw [hgs]; rfl, by rw [hgs, eP39]⟩
    · skip
      refine lv_iconst (v := 2) hx hb dd_M_goes_13 (by decide) ?_
      refine lv_goto (tgt := 35) hx hb dd_M_goes_14 (by decide) ?_
      refine pm_put (ci := 6) (v := .int (2 : Int32)) (ty := .int) (C := cn_M) (T := cf_M) (N := 23) hx hb hg gu_M ct_M co_M cm_M hown hK.2.1 hw mw.1 rfl 0 (by decide) (hg _ gf_M_65) (fun _ h9 => h9) rfl (by decide +kernel) rfl rfl (Nat.le_of_ble_eq_true rfl) dd_M_goes_35 (fun H locs hw => ?_)
      obtain ⟨P41, eP41⟩ : ∃ pmv : pm_T, pmv = pm_up P h0 (md_o ma (2 : Int32) hn al tn so) := ⟨_, rfl⟩
      have hw : pm_W z D cl_w (pm_up P h0 (md_o ma (2 : Int32) hn al tn so)) s.heap H _ := hw
      rw [← eP41] at hw
      have mwP41 : md_W P41 ac h0 ma mv (2 : Int32) hn al tn so := by rw [eP41]; exact md_W.obj mw
      have mfP41 : md_F P P41 h0 ma := by rw [eP41]; exact md_F.obj md_F.rf
      refine lv_aload_n hx hb dd_M_goes_38 rfl (lv_at hl 0 rfl) ?_
      refine pm_get (ci := 6) (C := cn_M) (T := cf_M) (N := 23) (v := .int (2 : Int32)) hx hb hg gu_M hown hK.2.1 hw mwP41.1 rfl 0 (by decide) (hg _ gf_M_65) (fun _ h9 => h9) rfl dd_M_goes_39 ?_
      refine lv_if_ne (tgt := 49) hx hb dd_M_goes_42 (by decide) (fun c42 => ?_) (fun c42 => absurd c42 (by decide))
      refine lv_iconst (v := 0) hx hb dd_M_goes_49 (by decide) ?_
      refine cx_iret (v := (0 : Int32)) hx hb hr (by decide) hlocks hw dd_M_goes_50 (by decide) (by decide) ?_
      have hgs : su_gs p1 p2 p3 p4 = (2 : Int32) := by rw [su_gs, if_neg c31, if_pos c32]
      exact ⟨by rw [hgs]; rfl, by rw [hgs, eP41]⟩
  · skip
    refine lv_iconst (v := 1) hx hb dd_M_goes_5 (by decide) ?_
    refine lv_goto (tgt := 35) hx hb dd_M_goes_6 (by decide) ?_
    refine pm_put (ci := 6) (v := .int (1 : Int32)) (ty := .int) (C := cn_M) (T := cf_M) (N := 23) hx hb hg gu_M ct_M co_M cm_M hown hK.2.1 hw mw.1 rfl 0 (by decide) (hg _ gf_M_65) (fun _ h9 => h9) rfl (by decide +kernel) rfl rfl (Nat.le_of_ble_eq_true rfl) dd_M_goes_35 (fun H locs hw => ?_)
    obtain ⟨P43, eP43⟩ : ∃ pmv : pm_T, pmv = pm_up P h0 (md_o ma (1 : Int32) hn al tn so) := ⟨_, rfl⟩
    have hw : pm_W z D cl_w (pm_up P h0 (md_o ma (1 : Int32) hn al tn so)) s.heap H _ := hw
    rw [← eP43] at hw
    have mwP43 : md_W P43 ac h0 ma mv (1 : Int32) hn al tn so := by rw [eP43]; exact md_W.obj mw
    have mfP43 : md_F P P43 h0 ma := by rw [eP43]; exact md_F.obj md_F.rf
    refine lv_aload_n hx hb dd_M_goes_38 rfl (lv_at hl 0 rfl) ?_
    refine pm_get (ci := 6) (C := cn_M) (T := cf_M) (N := 23) (v := .int (1 : Int32)) hx hb hg gu_M hown hK.2.1 hw mwP43.1 rfl 0 (by decide) (hg _ gf_M_65) (fun _ h9 => h9) rfl dd_M_goes_39 ?_
    refine lv_if_ne (tgt := 49) hx hb dd_M_goes_42 (by decide) (fun c44 => ?_) (fun c44 => absurd c44 (by decide))
    refine lv_iconst (v := 0) hx hb dd_M_goes_49 (by decide) ?_
    refine cx_iret (v := (0 : Int32)) hx hb hr (by decide) hlocks hw dd_M_goes_50 (by decide) (by decide) ?_
    have hgs : su_gs p1 p2 p3 p4 = (1 : Int32) := by rw [su_gs, if_pos c31]
    exact ⟨by rw [hgs]; rfl, by rw [hgs, eP43]⟩
