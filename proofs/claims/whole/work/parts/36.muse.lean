theorem su_b01 {a : Int32} (h : a = 0 ∨ a = 1) : narrow .boolean (.int a) = .int a := by rcases h with h | h <;> rw [h] <;> decide
theorem su_mus01 {mv : Nat → Nat → Int32} {al : Int32} {j d w : Nat} : su_mus mv al j d w = 0 ∨ su_mus mv al j d w = 1 := by
  unfold su_mus
  by_cases h1 : mv 4 j = 2
  · rw [if_pos h1]; exact .inl rfl
  rw [if_neg h1]
  by_cases h2 : mv 3 j = 1 ∧ al = 0
  · rw [if_pos h2]; exact .inl rfl
  rw [if_neg h2]
  by_cases h3 : mv 3 j = 2 ∧ ¬ mv 8 (12 * j + d % 360 / 30) = 0
  · rw [if_pos h3]; exact .inl rfl
  rw [if_neg h3]
  by_cases h4 : ∃ k, k < w ∧ ¬ su_in (nI d) (mv 6 (3 * j + k)) (mv 7 (3 * j + k)) = 0
  · rw [if_pos h4]; exact .inl rfl
  · rw [if_neg h4]; exact .inr rfl
def su_lat (mv : Nat → Nat → Int32) (t : Nat) (d days : Int32) (j : Nat) : Int32 := match su_cm (mv 10) (mv 11) (nI j) t with
  | none => 0
  | some i => if d - mv 11 i ≤ days then -1 else 1 + mv 11 i
def su_mbo (s m m2 lim : Int32) : Int32 := if m = m2 then (if 3 * s / 4 ≤ lim then 3 * s / 4 else lim) else s
def su_an8 (a b : Int32) : Int32 := if a = 0 then 0 else if b = 0 then 0 else 1
def su_nct (oh : Nat → Int32) (h : Int32) : Nat → Nat
  | 0 => 0
  | k + 1 => if oh k = h then su_nct oh h k + 1 else su_nct oh h k
theorem su_nct_le {oh : Nat → Int32} {h : Int32} : ∀ k, su_nct oh h k ≤ k
  | 0 => Nat.le_refl 0
  | k + 1 => by
    have := su_nct_le (oh := oh) (h := h) k
    simp only [su_nct]
    by_cases h1 : oh k = h
    · rw [if_pos h1]; omega
    · rw [if_neg h1]; omega
def su_mta (mv : Nat → Nat → Int32) (i : Nat) (w : Int32) : Int32 := if w = 0 then mv 10 i else if w = 1 then mv 11 i else if w = 2 then mv 12 i else if w = 3 then mv 13 i else mv 14 i
def su_mha (mv : Nat → Nat → Int32) (t j : Nat) (w : Int32) : Int32 := if w = 0 then mv 2 j else if w = 1 then mv 3 j else if w = 2 then mv 4 j else if w = 3 then su_oi (su_cm (mv 10) (mv 11) (nI j) t) else if w = 4 then nI (su_nct (mv 10) (nI j) t) else mv 5 j
theorem su_tin {v : Int32} {n : Nat} (hn : n ≤ 100) (h : ¬ su_in v 0 (nI n - 1) = 0) : ∃ j : Nat, j < n ∧ v = nI j := by
  obtain ⟨h1, h2⟩ := su_in1 h
  rcases Nat.eq_zero_or_pos n with h0 | h0
  · subst h0
    exact absurd h2 (fun h3 => h3 (by
      have h4 : nI 0 - 1 = -1 := by decide
      rw [h4]
      exact Int32.lt_of_lt_of_le (by decide) (Int32.not_lt.mp h1)))
  · obtain ⟨j, hj, rfl⟩ := nI_of h1
    refine ⟨j, ?_, rfl⟩
    obtain ⟨k, rfl⟩ : ∃ k, n = k + 1 := ⟨n - 1, by omega⟩
    rw [nI_pred] at h2
    rcases Nat.lt_or_ge k j with h5 | h5
    · exact absurd (nI_lt h5 hj) h2
    · omega
theorem su_tin_i {j n : Nat} (hj : j < n) (hn : n ≤ 100) : su_in (nI j) 0 (nI n - 1) = 1 := by
  obtain ⟨k, rfl⟩ : ∃ k, n = k + 1 := ⟨n - 1, by omega⟩
  rw [nI_pred, su_in, if_neg (nI_pos (by omega)), if_neg (nI_nlt (by omega) (by omega))]

set_option maxHeartbeats 4000000 in
set_option maxRecDepth 100000 in
theorem c_M_isUsable (l : Launch) (z : Nat) (D : va_G) (ac : Nat → ClassId) (sa : Nat → Nat) (P : pm_T) (h0 : Nat) (ma : Nat → Nat) (mv : Nat → Nat → Int32) (th al so : Int32) (n t : Nat) (hn40 : n ≤ 40) (ht100 : t ≤ 100) (j : Nat) (hj : j < 40) (dd : Nat) (hdd : dd ≤ 99999) (w : Nat) (hw3 : w ≤ 3) (hmw : mv 5 j = nI w) (mw : md_W P ac h0 ma mv th (nI n) al (nI t) so)  : cx_M l yy_M_isUsable bb_M_isUsable 4 (some .boolean) ({ frames := 1, cells := 0, slots := 0, locals := 22 } : Room) z D ac sa P [.ref h0, .int (nI j), .int (nI dd)] (fun v P' => v = some (.int (su_mus mv al j dd w)) ∧ P' = P) := by
  refine cx_ofM (by decide) (Nat.le_of_ble_eq_true rfl) (fun p e s m below meth c ls hx hb hr hml hg hown hlocks hin hK hw hl => ?_)
  have hl : lv_has ls 4 [(0, .ref h0), (1, .int (nI j)), (2, .int (nI dd))] := hl
  have hown : s.vm.findClass cn_M = some m.cls := hown
  have lp : ∀ (hn1 : ¬ mv 4 j = 2) (hn2 : ¬ (mv 3 j = 1 ∧ al = 0)) (hn3 : ¬ (mv 3 j = 2 ∧ ¬ mv 8 (12 * j + dd % 360 / 30) = 0)) (n9 k : Nat), k + n9 = w → ∀ (H : Heap) (locs : List Loc) (ls : Array Slot), (∀ k', k' < k → su_in (nI dd) (mv 6 (3 * j + k')) (mv 7 (3 * j + k')) = 0) → pm_W z D cl_w P s.heap H locs → lv_has ls 4 [(3, .int (nI k)), (0, .ref h0), (1, .int (nI j)), (2, .int (nI dd))] → W p l e ({ frames := 1, cells := 0, slots := 0, locals := 22 } : Room) s m ([.ref h0, .int (nI j), .int (nI dd)] : List Value).toArray below meth c H locs 0 0 (MQ below (cx_Q z D (fun v P' => v = some (.int (su_mus mv al j dd w)) ∧ P' = P)) ([.ref h0, .int (nI j), .int (nI dd)] : List Value).toArray s ({ frames := 1, cells := 0, slots := 0, locals := 22 } : Room).cells ({ frames := 1, cells := 0, slots := 0, locals := 22 } : Room).slots (pm_A z)) (F0 m 62 ls []) := by
    intro hn1 hn2 hn3 n9
    induction n9 with
    | zero =>
      intro k hk H locs ls hbf hw hl
      have hk : k = w := by omega
      subst hk
      refine lv_iload_n hx hb dd_M_isUsable_62 rfl (lv_at hl 0 rfl) ?_
      refine lv_aload_n hx hb dd_M_isUsable_63 rfl (lv_at hl 1 rfl) ?_
      refine pm_get (ci := 6) (C := cn_M) (T := cf_M) (N := 23) (v := .ref (ma 5)) hx hb hg gu_M hown hK.2.1 hw mw.1 rfl 7 (by decide) (hg _ gf_M_25) (fun _ h9 => h9) rfl dd_M_isUsable_64 ?_
      refine lv_iload_n hx hb dd_M_isUsable_67 rfl (lv_at hl 2 rfl) ?_
      refine pm_iald hx hb hK.2.1 hw 0 (show P (ma 5) = some (.inl (ac 0, 40, .inl (mv 5))) from mw.2.1 5 (by decide)) rfl (vp_in_nI (by omega) (by decide)) dd_M_isUsable_68 ?_
      refine W.eq (g2 := F0 m 69 ls [.int (mv 5 j), .int (nI k)]) (by rw [show ((mv 5) ((nI j).toNatClampNeg)) = (mv 5 j) from by rw [nI_clamp (by omega)]]) ?_
      refine W.eq (g2 := F0 m 69 ls [.int (nI k), .int (nI k)]) (by rw [show (mv 5 j) = (nI k) from hmw]) ?_
      refine lv_icmp_ge (tgt := 107) hx hb dd_M_isUsable_69 (by decide) (fun c31 => ?_) (fun c31 => absurd (Int32.le_refl _) c31)
      refine lv_iconst (v := 1) hx hb dd_M_isUsable_107 (by decide) ?_
      refine cx_iret (v := (1 : Int32)) hx hb hr (by decide) hlocks hw dd_M_isUsable_108 (by decide) (by decide) ?_
      exact ⟨by rw [su_mus, if_neg hn1, if_neg hn2, if_neg hn3, if_neg (fun h => h.elim (fun x hx => hx.2 (hbf x hx.1)))], rfl⟩
    | succ n9 ih =>
      intro k hk H locs ls hbf hw hl
      have hlt : k < w := by omega
      refine lv_iload_n hx hb dd_M_isUsable_62 rfl (lv_at hl 0 rfl) ?_
      refine lv_aload_n hx hb dd_M_isUsable_63 rfl (lv_at hl 1 rfl) ?_
      refine pm_get (ci := 6) (C := cn_M) (T := cf_M) (N := 23) (v := .ref (ma 5)) hx hb hg gu_M hown hK.2.1 hw mw.1 rfl 7 (by decide) (hg _ gf_M_25) (fun _ h9 => h9) rfl dd_M_isUsable_64 ?_
      refine lv_iload_n hx hb dd_M_isUsable_67 rfl (lv_at hl 2 rfl) ?_
      refine pm_iald hx hb hK.2.1 hw 0 (show P (ma 5) = some (.inl (ac 0, 40, .inl (mv 5))) from mw.2.1 5 (by decide)) rfl (vp_in_nI (by omega) (by decide)) dd_M_isUsable_68 ?_
      refine W.eq (g2 := F0 m 69 ls [.int (mv 5 j), .int (nI k)]) (by rw [show ((mv 5) ((nI j).toNatClampNeg)) = (mv 5 j) from by rw [nI_clamp (by omega)]]) ?_
      refine W.eq (g2 := F0 m 69 ls [.int (nI w), .int (nI k)]) (by rw [show (mv 5 j) = (nI w) from hmw]) ?_
      refine lv_icmp_ge (tgt := 107) hx hb dd_M_isUsable_69 (by decide) (fun c32 => absurd c32 (nI_ge hlt (by omega))) (fun c32 => ?_)
      refine lv_iload_n hx hb dd_M_isUsable_72 rfl (lv_at hl 3 rfl) ?_
      refine lv_aload_n hx hb dd_M_isUsable_73 rfl (lv_at hl 1 rfl) ?_
      refine pm_get (ci := 6) (C := cn_M) (T := cf_M) (N := 23) (v := .ref (ma 6)) hx hb hg gu_M hown hK.2.1 hw mw.1 rfl 8 (by decide) (hg _ gf_M_28) (fun _ h9 => h9) rfl dd_M_isUsable_74 ?_
      refine lv_iconst (v := 3) hx hb dd_M_isUsable_77 (by decide) ?_
      refine lv_iload_n hx hb dd_M_isUsable_78 rfl (lv_at hl 2 rfl) ?_
      refine lv_imul hx hb dd_M_isUsable_79 ?_
      refine lv_iload_n hx hb dd_M_isUsable_80 rfl (lv_at hl 0 rfl) ?_
      refine lv_iadd hx hb dd_M_isUsable_81 ?_
      refine W.eq (g2 := F0 m 82 ls [.int (nI (3 * j + k)), .ref (ma 6), .int (nI dd)]) (by rw [show (((3 : Int32) * (nI j)) + (nI k)) = (nI (3 * j + k)) from by rw [show (3 : Int32) = nI 3 from rfl, nI_mul, nI_add]]) ?_
      refine pm_iald hx hb hK.2.1 hw 0 (show P (ma 6) = some (.inl (ac 0, 120, .inl (mv 6))) from mw.2.1 6 (by decide)) rfl (vp_in_nI (by omega) (by decide)) dd_M_isUsable_82 ?_
      refine W.eq (g2 := F0 m 83 ls [.int (mv 6 (3 * j + k)), .int (nI dd)]) (by rw [show ((mv 6) ((nI (3 * j + k)).toNatClampNeg)) = (mv 6 (3 * j + k)) from by rw [nI_clamp (by omega)]]) ?_
      refine lv_aload_n hx hb dd_M_isUsable_83 rfl (lv_at hl 1 rfl) ?_
      refine pm_get (ci := 6) (C := cn_M) (T := cf_M) (N := 23) (v := .ref (ma 7)) hx hb hg gu_M hown hK.2.1 hw mw.1 rfl 9 (by decide) (hg _ gf_M_31) (fun _ h9 => h9) rfl dd_M_isUsable_84 ?_
      refine lv_iconst (v := 3) hx hb dd_M_isUsable_87 (by decide) ?_
      refine lv_iload_n hx hb dd_M_isUsable_88 rfl (lv_at hl 2 rfl) ?_
      refine lv_imul hx hb dd_M_isUsable_89 ?_
      refine lv_iload_n hx hb dd_M_isUsable_90 rfl (lv_at hl 0 rfl) ?_
      refine lv_iadd hx hb dd_M_isUsable_91 ?_
      refine W.eq (g2 := F0 m 92 ls [.int (nI (3 * j + k)), .ref (ma 7), .int (mv 6 (3 * j + k)), .int (nI dd)]) (by rw [show (((3 : Int32) * (nI j)) + (nI k)) = (nI (3 * j + k)) from by rw [show (3 : Int32) = nI 3 from rfl, nI_mul, nI_add]]) ?_
      refine pm_iald hx hb hK.2.1 hw 0 (show P (ma 7) = some (.inl (ac 0, 120, .inl (mv 7))) from mw.2.1 7 (by decide)) rfl (vp_in_nI (by omega) (by decide)) dd_M_isUsable_92 ?_
      refine W.eq (g2 := F0 m 93 ls [.int (mv 7 (3 * j + k)), .int (mv 6 (3 * j + k)), .int (nI dd)]) (by rw [show ((mv 7) ((nI (3 * j + k)).toNatClampNeg)) = (mv 7 (3 * j + k)) from by rw [nI_clamp (by omega)]]) ?_
      refine cx_after (cx_rS (n := 3) (As := [.int (nI dd), .int (mv 6 (3 * j + k)), .int (mv 7 (3 * j + k))]) (rest := []) ⟨hx, hb, hml, hown, hg⟩ (c_M_in l z D ac sa P (nI dd) (mv 6 (3 * j + k)) (mv 7 (3 * j + k))) (cx_gs gm_M_72 gt_M_in gn_M gc_M_in) (by decide +kernel) ⟨by decide, by decide⟩ hK hw rfl hl.1 rfl (Nat.le_of_ble_eq_true rfl) dd_M_isUsable_93 ⟨by decide, by decide⟩) hw (fun v9 P9 H locs hp hw => ?_)
      obtain ⟨rfl, e9⟩ := hp
      rw [e9] at hw
      clear e9 P9
      refine W.eq (g2 := F0 m 96 ls [.int (su_in (nI dd) (mv 6 (3 * j + k)) (mv 7 (3 * j + k)))]) rfl ?_
      refine lv_if_eq (tgt := 101) hx hb dd_M_isUsable_96 (by decide) (fun c33 => ?_) (fun c33 => ?_)
      · skip
        obtain ⟨x34, ex34⟩ : ∃ y : Int32, y = (nI k) + 1 := ⟨_, rfl⟩
        refine lv_iinc (v := x34) (lv' := [(3, .int x34), (0, .ref h0), (1, .int (nI j)), (2, .int (nI dd))]) hx hb dd_M_isUsable_101 hl (k := 0) rfl (by rw [ex34]; rfl) (by decide) rfl (fun ls hl => ?_)
        refine lv_goto (tgt := 62) hx hb dd_M_isUsable_104 (by decide) ?_
        have hi7 : x34 = nI (k + 1) := by rw [ex34]; exact nI_1 k
        rw [hi7] at hl
        exact ih (k + 1) (by omega) H _ ls (fun k' hk' => by rcases Nat.lt_or_eq_of_le (Nat.le_of_lt_succ hk') with h | h; exact hbf k' h; rw [h]; exact c33) hw (lv_sub hl [0, 1, 2, 3] rfl)
      · skip
        refine lv_iconst (v := 0) hx hb dd_M_isUsable_99 (by decide) ?_
        refine cx_iret (v := (0 : Int32)) hx hb hr (by decide) hlocks hw dd_M_isUsable_100 (by decide) (by decide) ?_
        exact ⟨by rw [su_mus, if_neg hn1, if_neg hn2, if_neg hn3, if_pos ⟨k, hlt, c33⟩], rfl⟩
  refine lv_aload_n hx hb dd_M_isUsable_0 rfl (lv_at hl 0 rfl) ?_
  refine pm_get (ci := 6) (C := cn_M) (T := cf_M) (N := 23) (v := .ref (ma 4)) hx hb hg gu_M hown hK.2.1 hw mw.1 rfl 6 (by decide) (hg _ gf_M_22) (fun _ h9 => h9) rfl dd_M_isUsable_1 ?_
  refine lv_iload_n hx hb dd_M_isUsable_4 rfl (lv_at hl 1 rfl) ?_
  refine pm_iald hx hb hK.2.1 hw 0 (show P (ma 4) = some (.inl (ac 0, 40, .inl (mv 4))) from mw.2.1 4 (by decide)) rfl (vp_in_nI (by omega) (by decide)) dd_M_isUsable_5 ?_
  refine W.eq (g2 := F0 m 6 ls [.int (mv 4 j)]) (by rw [show ((mv 4) ((nI j).toNatClampNeg)) = (mv 4 j) from by rw [nI_clamp (by omega)]]) ?_
  refine lv_iconst (v := 2) hx hb dd_M_isUsable_6 (by decide) ?_
  refine lv_icmp_eq (tgt := 58) hx hb dd_M_isUsable_7 (by decide) (fun c35 => ?_) (fun c35 => ?_)
  · skip
    refine lv_iconst (v := 0) hx hb dd_M_isUsable_58 (by decide) ?_
    refine cx_iret (v := (0 : Int32)) hx hb hr (by decide) hlocks hw dd_M_isUsable_59 (by decide) (by decide) ?_
    exact ⟨by rw [su_mus, if_pos c35], rfl⟩
  · skip
    refine lv_aload_n hx hb dd_M_isUsable_10 rfl (lv_at hl 0 rfl) ?_
    refine pm_get (ci := 6) (C := cn_M) (T := cf_M) (N := 23) (v := .ref (ma 3)) hx hb hg gu_M hown hK.2.1 hw mw.1 rfl 5 (by decide) (hg _ gf_M_19) (fun _ h9 => h9) rfl dd_M_isUsable_11 ?_
    refine lv_iload_n hx hb dd_M_isUsable_14 rfl (lv_at hl 1 rfl) ?_
    refine pm_iald hx hb hK.2.1 hw 0 (show P (ma 3) = some (.inl (ac 0, 40, .inl (mv 3))) from mw.2.1 3 (by decide)) rfl (vp_in_nI (by omega) (by decide)) dd_M_isUsable_15 ?_
    refine W.eq (g2 := F0 m 16 ls [.int (mv 3 j)]) (by rw [show ((mv 3) ((nI j).toNatClampNeg)) = (mv 3 j) from by rw [nI_clamp (by omega)]]) ?_
    refine lv_iconst (v := 1) hx hb dd_M_isUsable_16 (by decide) ?_
    refine lv_icmp_ne (tgt := 27) hx hb dd_M_isUsable_17 (by decide) (fun c36 => ?_) (fun c36 => ?_)
    · skip
      refine lv_aload_n hx hb dd_M_isUsable_27 rfl (lv_at hl 0 rfl) ?_
      refine pm_get (ci := 6) (C := cn_M) (T := cf_M) (N := 23) (v := .ref (ma 3)) hx hb hg gu_M hown hK.2.1 hw mw.1 rfl 5 (by decide) (hg _ gf_M_19) (fun _ h9 => h9) rfl dd_M_isUsable_28 ?_
      refine lv_iload_n hx hb dd_M_isUsable_31 rfl (lv_at hl 1 rfl) ?_
      refine pm_iald hx hb hK.2.1 hw 0 (show P (ma 3) = some (.inl (ac 0, 40, .inl (mv 3))) from mw.2.1 3 (by decide)) rfl (vp_in_nI (by omega) (by decide)) dd_M_isUsable_32 ?_
      refine W.eq (g2 := F0 m 33 ls [.int (mv 3 j)]) (by rw [show ((mv 3) ((nI j).toNatClampNeg)) = (mv 3 j) from by rw [nI_clamp (by omega)]]) ?_
      refine lv_iconst (v := 2) hx hb dd_M_isUsable_33 (by decide) ?_
      refine lv_icmp_ne (tgt := 60) hx hb dd_M_isUsable_34 (by decide) (fun c37 => ?_) (fun c37 => ?_)
      · skip
        refine lv_iconst (v := 0) hx hb dd_M_isUsable_60 (by decide) ?_
        refine lv_istore_n (lv' := [(3, .int (0 : Int32)), (0, .ref h0), (1, .int (nI j)), (2, .int (nI dd))]) hx hb dd_M_isUsable_61 rfl hl (by decide) rfl (fun ls hl => ?_)
        exact lp c35 (fun h => c36 h.1) (fun h => c37 h.1) w 0 (Nat.zero_add w) _ _ ls (fun _ h => absurd h (Nat.not_lt_zero _)) hw (lv_sub hl [0, 1, 2, 3] rfl)
      · skip
        refine lv_aload_n hx hb dd_M_isUsable_37 rfl (lv_at hl 0 rfl) ?_
        refine pm_get (ci := 6) (C := cn_M) (T := cf_M) (N := 23) (v := .ref (ma 8)) hx hb hg gu_M hown hK.2.1 hw mw.1 rfl 10 (by decide) (hg _ gf_M_34) (fun _ h9 => h9) rfl dd_M_isUsable_38 ?_
        refine lv_bipush (v := 12) hx hb dd_M_isUsable_41 (by decide) ?_
        refine lv_iload_n hx hb dd_M_isUsable_43 rfl (lv_at hl 1 rfl) ?_
        refine lv_imul hx hb dd_M_isUsable_44 ?_
        refine lv_iload_n hx hb dd_M_isUsable_45 rfl (lv_at hl 2 rfl) ?_
        refine lv_sipush (v := 360) hx hb dd_M_isUsable_46 (by decide) ?_
        refine lv_irem hx hb dd_M_isUsable_49 (by decide) ?_
        refine W.eq (g2 := F0 m 50 ls [.int (nI (dd % 360)), .int ((12 : Int32) * (nI j)), .ref (ma 8)]) (by rw [show ((nI dd) - (nI dd) / (360 : Int32) * (360 : Int32)) = (nI (dd % 360)) from nI_mod (b := 360) (by omega) (by decide)]) ?_
        refine lv_bipush (v := 30) hx hb dd_M_isUsable_50 (by decide) ?_
        refine lv_idiv hx hb dd_M_isUsable_52 (by decide) ?_
        refine W.eq (g2 := F0 m 53 ls [.int (nI (dd % 360 / 30)), .int ((12 : Int32) * (nI j)), .ref (ma 8)]) (by rw [show ((nI (dd % 360)) / (30 : Int32)) = (nI (dd % 360 / 30)) from nI_div (b := 30) (by omega) (by decide)]) ?_
        refine lv_iadd hx hb dd_M_isUsable_53 ?_
        refine W.eq (g2 := F0 m 54 ls [.int (nI (12 * j + dd % 360 / 30)), .ref (ma 8)]) (by rw [show (((12 : Int32) * (nI j)) + (nI (dd % 360 / 30))) = (nI (12 * j + dd % 360 / 30)) from by rw [show (12 : Int32) = nI 12 from rfl, nI_mul, nI_add]]) ?_
        refine pm_zald hx hb hK.2.1 hw 2 (show P (ma 8) = some (.inl (ac 2, 480, .inl (mv 8))) from mw.2.1 8 (by decide)) rfl (vp_in_nI (by omega) (by decide)) dd_M_isUsable_54 ?_
        refine W.eq (g2 := F0 m 55 ls [.int (mv 8 (12 * j + dd % 360 / 30))]) (by rw [show ((mv 8) ((nI (12 * j + dd % 360 / 30)).toNatClampNeg)) = (mv 8 (12 * j + dd % 360 / 30)) from by rw [nI_clamp (by omega)]]) ?_
        refine lv_if_eq (tgt := 60) hx hb dd_M_isUsable_55 (by decide) (fun c38 => ?_) (fun c38 => ?_)
        · skip
          refine lv_iconst (v := 0) hx hb dd_M_isUsable_60 (by decide) ?_
          refine lv_istore_n (lv' := [(3, .int (0 : Int32)), (0, .ref h0), (1, .int (nI j)), (2, .int (nI dd))]) hx hb dd_M_isUsable_61 rfl hl (by decide) rfl (fun ls hl => ?_)
          exact lp c35 (fun h => c36 h.1) (fun h => h.2 c38) w 0 (Nat.zero_add w) _ _ ls (fun _ h => absurd h (Nat.not_lt_zero _)) hw (lv_sub hl [0, 1, 2, 3] rfl)
        · skip
          refine lv_iconst (v := 0) hx hb dd_M_isUsable_58 (by decide) ?_
          refine cx_iret (v := (0 : Int32)) hx hb hr (by decide) hlocks hw dd_M_isUsable_59 (by decide) (by decide) ?_
          exact ⟨by rw [su_mus, if_neg c35, if_neg (fun h => c36 h.1), if_pos ⟨c37, c38⟩], rfl⟩
    · skip
      refine lv_aload_n hx hb dd_M_isUsable_20 rfl (lv_at hl 0 rfl) ?_
      refine pm_get (ci := 6) (C := cn_M) (T := cf_M) (N := 23) (v := .int al) hx hb hg gu_M hown hK.2.1 hw mw.1 rfl 12 (by decide) (hg _ gf_M_91) (fun _ h9 => h9) rfl dd_M_isUsable_21 ?_
      refine lv_if_eq (tgt := 58) hx hb dd_M_isUsable_24 (by decide) (fun c39 => ?_) (fun c39 => ?_)
      · skip
        refine lv_iconst (v := 0) hx hb dd_M_isUsable_58 (by decide) ?_
        refine cx_iret (v := (0 : Int32)) hx hb hr (by decide) hlocks hw dd_M_isUsable_59 (by decide) (by decide) ?_
        exact ⟨by rw [su_mus, if_neg c35, if_pos ⟨c36, c39⟩], rfl⟩
      · skip
        refine lv_aload_n hx hb dd_M_isUsable_27 rfl (lv_at hl 0 rfl) ?_
        refine pm_get (ci := 6) (C := cn_M) (T := cf_M) (N := 23) (v := .ref (ma 3)) hx hb hg gu_M hown hK.2.1 hw mw.1 rfl 5 (by decide) (hg _ gf_M_19) (fun _ h9 => h9) rfl dd_M_isUsable_28 ?_
        refine lv_iload_n hx hb dd_M_isUsable_31 rfl (lv_at hl 1 rfl) ?_
        refine pm_iald hx hb hK.2.1 hw 0 (show P (ma 3) = some (.inl (ac 0, 40, .inl (mv 3))) from mw.2.1 3 (by decide)) rfl (vp_in_nI (by omega) (by decide)) dd_M_isUsable_32 ?_
        refine W.eq (g2 := F0 m 33 ls [.int (mv 3 j)]) (by rw [show ((mv 3) ((nI j).toNatClampNeg)) = (mv 3 j) from by rw [nI_clamp (by omega)]]) ?_
        refine lv_iconst (v := 2) hx hb dd_M_isUsable_33 (by decide) ?_
        refine lv_icmp_ne (tgt := 60) hx hb dd_M_isUsable_34 (by decide) (fun c40 => ?_) (fun c40 => ?_)
        · skip
          refine lv_iconst (v := 0) hx hb dd_M_isUsable_60 (by decide) ?_
          refine lv_istore_n (lv' := [(3, .int (0 : Int32)), (0, .ref h0), (1, .int (nI j)), (2, .int (nI dd))]) hx hb dd_M_isUsable_61 rfl hl (by decide) rfl (fun ls hl => ?_)
          exact lp c35 (fun h => c39 h.2) (fun h => c40 h.1) w 0 (Nat.zero_add w) _ _ ls (fun _ h => absurd h (Nat.not_lt_zero _)) hw (lv_sub hl [0, 1, 2, 3] rfl)
        · skip
          refine lv_aload_n hx hb dd_M_isUsable_37 rfl (lv_at hl 0 rfl) ?_
          refine pm_get (ci := 6) (C := cn_M) (T := cf_M) (N := 23) (v := .ref (ma 8)) hx hb hg gu_M hown hK.2.1 hw mw.1 rfl 10 (by decide) (hg _ gf_M_34) (fun _ h9 => h9) rfl dd_M_isUsable_38 ?_
          refine lv_bipush (v := 12) hx hb dd_M_isUsable_41 (by decide) ?_
          refine lv_iload_n hx hb dd_M_isUsable_43 rfl (lv_at hl 1 rfl) ?_
          refine lv_imul hx hb dd_M_isUsable_44 ?_
          refine lv_iload_n hx hb dd_M_isUsable_45 rfl (lv_at hl 2 rfl) ?_
          refine lv_sipush (v := 360) hx hb dd_M_isUsable_46 (by decide) ?_
          refine lv_irem hx hb dd_M_isUsable_49 (by decide) ?_
          refine W.eq (g2 := F0 m 50 ls [.int (nI (dd % 360)), .int ((12 : Int32) * (nI j)), .ref (ma 8)]) (by rw [show ((nI dd) - (nI dd) / (360 : Int32) * (360 : Int32)) = (nI (dd % 360)) from nI_mod (b := 360) (by omega) (by decide)]) ?_
          refine lv_bipush (v := 30) hx hb dd_M_isUsable_50 (by decide) ?_
          refine lv_idiv hx hb dd_M_isUsable_52 (by decide) ?_
          refine W.eq (g2 := F0 m 53 ls [.int (nI (dd % 360 / 30)), .int ((12 : Int32) * (nI j)), .ref (ma 8)]) (by rw [show ((nI (dd % 360)) / (30 : Int32)) = (nI (dd % 360 / 30)) from nI_div (b := 30) (by omega) (by decide)]) ?_
          refine lv_iadd hx hb dd_M_isUsable_53 ?_
          refine W.eq (g2 := F0 m 54 ls [.int (nI (12 * j + dd % 360 / 30)), .ref (ma 8)]) (by rw [show (((12 : Int32) * (nI j)) + (nI (dd % 360 / 30))) = (nI (12 * j + dd % 360 / 30)) from by rw [show (12 : Int32) = nI 12 from rfl, nI_mul, nI_add]]) ?_
          refine pm_zald hx hb hK.2.1 hw 2 (show P (ma 8) = some (.inl (ac 2, 480, .inl (mv 8))) from mw.2.1 8 (by decide)) rfl (vp_in_nI (by omega) (by decide)) dd_M_isUsable_54 ?_
          refine W.eq (g2 := F0 m 55 ls [.int (mv 8 (12 * j + dd % 360 / 30))]) (by rw [show ((mv 8) ((nI (12 * j + dd % 360 / 30)).toNatClampNeg)) = (mv 8 (12 * j + dd % 360 / 30)) from by rw [nI_clamp (by omega)]]) ?_
          refine lv_if_eq (tgt := 60) hx hb dd_M_isUsable_55 (by decide) (fun c41 => ?_) (fun c41 => ?_)
          · skip
            refine lv_iconst (v := 0) hx hb dd_M_isUsable_60 (by decide) ?_
            refine lv_istore_n (lv' := [(3, .int (0 : Int32)), (0, .ref h0), (1, .int (nI j)), (2, .int (nI dd))]) hx hb dd_M_isUsable_61 rfl hl (by decide) rfl (fun ls hl => ?_)
            exact lp c35 (fun h => c39 h.2) (fun h => h.2 c41) w 0 (Nat.zero_add w) _ _ ls (fun _ h => absurd h (Nat.not_lt_zero _)) hw (lv_sub hl [0, 1, 2, 3] rfl)
          · skip
            refine lv_iconst (v := 0) hx hb dd_M_isUsable_58 (by decide) ?_
            refine cx_iret (v := (0 : Int32)) hx hb hr (by decide) hlocks hw dd_M_isUsable_59 (by decide) (by decide) ?_
            exact ⟨by rw [su_mus, if_neg c35, if_neg (fun h => c39 h.2), if_pos ⟨c40, c41⟩], rfl⟩

set_option maxHeartbeats 4000000 in
set_option maxRecDepth 100000 in
theorem c_M_usableA (l : Launch) (z : Nat) (D : va_G) (ac : Nat → ClassId) (sa : Nat → Nat) (P : pm_T) (h0 : Nat) (ma : Nat → Nat) (mv : Nat → Nat → Int32) (th al so : Int32) (n t : Nat) (hn40 : n ≤ 40) (ht100 : t ≤ 100) (p1 p2 : Int32) (hA : su_in p1 0 (nI n - 1) = 0) (mw : md_W P ac h0 ma mv th (nI n) al (nI t) so)  : cx_M l yy_M_usable bb_M_usable 3 (some .boolean) ({ frames := 3, cells := 0, slots := 0, locals := 90 } : Room) z D ac sa P [.ref h0, .int p1, .int p2] (fun v P' => v = some (.int 0) ∧ md_W P' ac h0 ma mv 1 (nI n) al (nI t) so ∧ md_F P P' h0 ma) := by
  refine cx_ofM (by decide) (Nat.le_of_ble_eq_true rfl) (fun p e s m below meth c ls hx hb hr hml hg hown hlocks hin hK hw hl => ?_)
  have hl : lv_has ls 3 [(0, .ref h0), (1, .int p1), (2, .int p2)] := hl
  have hown : s.vm.findClass cn_M = some m.cls := hown
  refine lv_aload_n hx hb dd_M_usable_0 rfl (lv_at hl 0 rfl) ?_
  refine lv_aload_n hx hb dd_M_usable_1 rfl (lv_at hl 0 rfl) ?_
  refine lv_iload_n hx hb dd_M_usable_2 rfl (lv_at hl 1 rfl) ?_
  refine cx_after (cx_rV (n := 1) (As := [.int p1]) (rest := [.ref h0]) ⟨hx, hb, hml, hown, hg⟩ (c_M_isHydrant l z D ac sa P h0 ma mv th (nI n) al (nI t) so p1 mw) (cx_gv gm_M_95 gi_M_isHydrant gs_M_isHydrant gn_M gc_M_isHydrant) (by decide +kernel) ⟨by decide, by decide⟩ hK hw mw.1 rfl rfl hl.1 rfl (Nat.le_of_ble_eq_true rfl) dd_M_usable_3 ⟨by decide, by decide⟩) hw (fun v9 P9 H locs hp hw => ?_)
  obtain ⟨rfl, e9⟩ := hp
  rw [e9] at hw
  clear e9 P9
  refine W.eq (g2 := F0 m 6 ls [.int (su_in p1 0 ((nI n) - 1)), .ref h0]) rfl ?_
  refine W.eq (g2 := F0 m 6 ls [.int (0 : Int32), .ref h0]) (by rw [show (su_in p1 0 ((nI n) - 1)) = (0 : Int32) from hA]) ?_
  refine lv_iload_n hx hb dd_M_usable_6 rfl (lv_at hl 2 rfl) ?_
  refine cx_after (cx_rS (n := 1) (As := [.int p2]) (rest := [.int (0 : Int32), .ref h0]) ⟨hx, hb, hml, hown, hg⟩ (c_M_isDay l z D ac sa P p2) (cx_gs gm_M_98 gt_M_isDay gn_M gc_M_isDay) (by decide +kernel) ⟨by decide, by decide⟩ hK hw rfl hl.1 rfl (Nat.le_of_ble_eq_true rfl) dd_M_usable_7 ⟨by decide, by decide⟩) hw (fun v9 P9 H locs hp hw => ?_)
  obtain ⟨rfl, e9⟩ := hp
  rw [e9] at hw
  clear e9 P9
  refine W.eq (g2 := F0 m 10 ls [.int (su_in p2 0 99999), .int (0 : Int32), .ref h0]) rfl ?_
  refine lv_iconst (v := 1) hx hb dd_M_usable_10 (by decide) ?_
  refine lv_iconst (v := 1) hx hb dd_M_usable_11 (by decide) ?_
  refine cx_after (cx_rV (n := 4) (As := [.int (0 : Int32), .int (su_in p2 0 99999), .int (1 : Int32), .int (1 : Int32)]) (rest := []) ⟨hx, hb, hml, hown, hg⟩ (c_M_goes l z D ac sa P h0 ma mv th (nI n) al (nI t) so (0 : Int32) (su_in p2 0 99999) (1 : Int32) (1 : Int32) mw) (cx_gv gm_M_83 gi_M_goes gs_M_goes gn_M gc_M_goes) (by decide +kernel) ⟨by decide, by decide⟩ hK hw mw.1 rfl rfl hl.1 rfl (Nat.le_of_ble_eq_true rfl) dd_M_usable_12 ⟨by decide, by decide⟩) hw (fun v9 P9 H locs hp hw => ?_)
  obtain ⟨rfl, e9⟩ := hp
  rw [e9] at hw
  clear e9 P9
  refine W.eq (g2 := F0 m 15 ls [.int (if (su_gs (0 : Int32) (su_in p2 0 99999) (1 : Int32) (1 : Int32)) = 0 then 1 else 0)]) rfl ?_
  obtain ⟨P31, eP31⟩ : ∃ pmv : pm_T, pmv = pm_up P h0 (md_o ma (su_gs (0 : Int32) (su_in p2 0 99999) (1 : Int32) (1 : Int32)) (nI n) al (nI t) so) := ⟨_, rfl⟩
  have hw : pm_W z D cl_w (pm_up P h0 (md_o ma (su_gs (0 : Int32) (su_in p2 0 99999) (1 : Int32) (1 : Int32)) (nI n) al (nI t) so)) s.heap H _ := hw
  rw [← eP31] at hw
  have mwP31 : md_W P31 ac h0 ma mv (su_gs (0 : Int32) (su_in p2 0 99999) (1 : Int32) (1 : Int32)) (nI n) al (nI t) so := by rw [eP31]; exact md_W.obj mw
  have mfP31 : md_F P P31 h0 ma := by rw [eP31]; exact md_F.obj md_F.rf
  refine W.eq (g2 := F0 m 15 ls [.int (0 : Int32)]) (by rw [show (if (su_gs (0 : Int32) (su_in p2 0 99999) (1 : Int32) (1 : Int32)) = 0 then 1 else 0) = (0 : Int32) from if_neg (fun h8 => (su_gs0 h8).1 rfl)]) ?_
  refine lv_if_eq (tgt := 31) hx hb dd_M_usable_15 (by decide) (fun c32 => ?_) (fun c32 => absurd (by decide) c32)
  refine lv_iconst (v := 0) hx hb dd_M_usable_31 (by decide) ?_
  refine cx_iret (v := (0 : Int32)) hx hb hr (by decide) hlocks hw dd_M_usable_32 (by decide) (by decide) ?_
  exact ⟨rfl, by have h7 := mwP31; rw [show (su_gs (0 : Int32) (su_in p2 0 99999) (1 : Int32) (1 : Int32)) = 1 from by simp [su_gs]] at h7; exact h7, mfP31⟩

set_option maxHeartbeats 4000000 in
set_option maxRecDepth 100000 in
theorem c_M_usableB (l : Launch) (z : Nat) (D : va_G) (ac : Nat → ClassId) (sa : Nat → Nat) (P : pm_T) (h0 : Nat) (ma : Nat → Nat) (mv : Nat → Nat → Int32) (th al so : Int32) (n t : Nat) (hn40 : n ≤ 40) (ht100 : t ≤ 100) (j : Nat) (hj : j < n) (p2 : Int32) (hB : su_in p2 0 99999 = 0) (mw : md_W P ac h0 ma mv th (nI n) al (nI t) so)  : cx_M l yy_M_usable bb_M_usable 3 (some .boolean) ({ frames := 3, cells := 0, slots := 0, locals := 90 } : Room) z D ac sa P [.ref h0, .int (nI j), .int p2] (fun v P' => v = some (.int 0) ∧ md_W P' ac h0 ma mv 2 (nI n) al (nI t) so ∧ md_F P P' h0 ma) := by
  refine cx_ofM (by decide) (Nat.le_of_ble_eq_true rfl) (fun p e s m below meth c ls hx hb hr hml hg hown hlocks hin hK hw hl => ?_)
  have hl : lv_has ls 3 [(0, .ref h0), (1, .int (nI j)), (2, .int p2)] := hl
  have hown : s.vm.findClass cn_M = some m.cls := hown
  refine lv_aload_n hx hb dd_M_usable_0 rfl (lv_at hl 0 rfl) ?_
  refine lv_aload_n hx hb dd_M_usable_1 rfl (lv_at hl 0 rfl) ?_
  refine lv_iload_n hx hb dd_M_usable_2 rfl (lv_at hl 1 rfl) ?_
  refine cx_after (cx_rV (n := 1) (As := [.int (nI j)]) (rest := [.ref h0]) ⟨hx, hb, hml, hown, hg⟩ (c_M_isHydrant l z D ac sa P h0 ma mv th (nI n) al (nI t) so (nI j) mw) (cx_gv gm_M_95 gi_M_isHydrant gs_M_isHydrant gn_M gc_M_isHydrant) (by decide +kernel) ⟨by decide, by decide⟩ hK hw mw.1 rfl rfl hl.1 rfl (Nat.le_of_ble_eq_true rfl) dd_M_usable_3 ⟨by decide, by decide⟩) hw (fun v9 P9 H locs hp hw => ?_)
  obtain ⟨rfl, e9⟩ := hp
  rw [e9] at hw
  clear e9 P9
  refine W.eq (g2 := F0 m 6 ls [.int (su_in (nI j) 0 ((nI n) - 1)), .ref h0]) rfl ?_
  refine W.eq (g2 := F0 m 6 ls [.int (1 : Int32), .ref h0]) (by rw [show (su_in (nI j) 0 ((nI n) - 1)) = (1 : Int32) from su_hin_i hj (by omega)]) ?_
  refine lv_iload_n hx hb dd_M_usable_6 rfl (lv_at hl 2 rfl) ?_
  refine cx_after (cx_rS (n := 1) (As := [.int p2]) (rest := [.int (1 : Int32), .ref h0]) ⟨hx, hb, hml, hown, hg⟩ (c_M_isDay l z D ac sa P p2) (cx_gs gm_M_98 gt_M_isDay gn_M gc_M_isDay) (by decide +kernel) ⟨by decide, by decide⟩ hK hw rfl hl.1 rfl (Nat.le_of_ble_eq_true rfl) dd_M_usable_7 ⟨by decide, by decide⟩) hw (fun v9 P9 H locs hp hw => ?_)
  obtain ⟨rfl, e9⟩ := hp
  rw [e9] at hw
  clear e9 P9
  refine W.eq (g2 := F0 m 10 ls [.int (su_in p2 0 99999), .int (1 : Int32), .ref h0]) rfl ?_
  refine W.eq (g2 := F0 m 10 ls [.int (0 : Int32), .int (1 : Int32), .ref h0]) (by rw [show (su_in p2 0 99999) = (0 : Int32) from hB]) ?_
  refine lv_iconst (v := 1) hx hb dd_M_usable_10 (by decide) ?_
  refine lv_iconst (v := 1) hx hb dd_M_usable_11 (by decide) ?_
  refine cx_after (cx_rV (n := 4) (As := [.int (1 : Int32), .int (0 : Int32), .int (1 : Int32), .int (1 : Int32)]) (rest := []) ⟨hx, hb, hml, hown, hg⟩ (c_M_goes l z D ac sa P h0 ma mv th (nI n) al (nI t) so (1 : Int32) (0 : Int32) (1 : Int32) (1 : Int32) mw) (cx_gv gm_M_83 gi_M_goes gs_M_goes gn_M gc_M_goes) (by decide +kernel) ⟨by decide, by decide⟩ hK hw mw.1 rfl rfl hl.1 rfl (Nat.le_of_ble_eq_true rfl) dd_M_usable_12 ⟨by decide, by decide⟩) hw (fun v9 P9 H locs hp hw => ?_)
  obtain ⟨rfl, e9⟩ := hp
  rw [e9] at hw
  clear e9 P9
  refine W.eq (g2 := F0 m 15 ls [.int (if (su_gs (1 : Int32) (0 : Int32) (1 : Int32) (1 : Int32)) = 0 then 1 else 0)]) rfl ?_
  obtain ⟨P31, eP31⟩ : ∃ pmv : pm_T, pmv = pm_up P h0 (md_o ma (su_gs (1 : Int32) (0 : Int32) (1 : Int32) (1 : Int32)) (nI n) al (nI t) so) := ⟨_, rfl⟩
  have hw : pm_W z D cl_w (pm_up P h0 (md_o ma (su_gs (1 : Int32) (0 : Int32) (1 : Int32) (1 : Int32)) (nI n) al (nI t) so)) s.heap H _ := hw
  rw [← eP31] at hw
  have mwP31 : md_W P31 ac h0 ma mv (su_gs (1 : Int32) (0 : Int32) (1 : Int32) (1 : Int32)) (nI n) al (nI t) so := by rw [eP31]; exact md_W.obj mw
  have mfP31 : md_F P P31 h0 ma := by rw [eP31]; exact md_F.obj md_F.rf
  refine W.eq (g2 := F0 m 15 ls [.int (0 : Int32)]) (by rw [show (if (su_gs (1 : Int32) (0 : Int32) (1 : Int32) (1 : Int32)) = 0 then 1 else 0) = (0 : Int32) from if_neg (fun h8 => (su_gs0 h8).2.1 rfl)]) ?_
  refine lv_if_eq (tgt := 31) hx hb dd_M_usable_15 (by decide) (fun c32 => ?_) (fun c32 => absurd (by decide) c32)
  refine lv_iconst (v := 0) hx hb dd_M_usable_31 (by decide) ?_
  refine cx_iret (v := (0 : Int32)) hx hb hr (by decide) hlocks hw dd_M_usable_32 (by decide) (by decide) ?_
  exact ⟨rfl, by have h7 := mwP31; rw [show (su_gs (1 : Int32) (0 : Int32) (1 : Int32) (1 : Int32)) = 2 from by simp [su_gs]] at h7; exact h7, mfP31⟩

set_option maxHeartbeats 4000000 in
set_option maxRecDepth 100000 in
theorem c_M_usableC (l : Launch) (z : Nat) (D : va_G) (ac : Nat → ClassId) (sa : Nat → Nat) (P : pm_T) (h0 : Nat) (ma : Nat → Nat) (mv : Nat → Nat → Int32) (th al so : Int32) (n t : Nat) (hn40 : n ≤ 40) (ht100 : t ≤ 100) (j : Nat) (hj : j < n) (dd : Nat) (hdd : dd ≤ 99999) (w : Nat) (hw3 : w ≤ 3) (hmw : mv 5 j = nI w) (mw : md_W P ac h0 ma mv th (nI n) al (nI t) so)  : cx_M l yy_M_usable bb_M_usable 3 (some .boolean) ({ frames := 3, cells := 0, slots := 0, locals := 90 } : Room) z D ac sa P [.ref h0, .int (nI j), .int (nI dd)] (fun v P' => v = some (.int (su_mus mv al j dd w)) ∧ md_W P' ac h0 ma mv 0 (nI n) al (nI t) so ∧ md_F P P' h0 ma) := by
  refine cx_ofM (by decide) (Nat.le_of_ble_eq_true rfl) (fun p e s m below meth c ls hx hb hr hml hg hown hlocks hin hK hw hl => ?_)
  have hl : lv_has ls 3 [(0, .ref h0), (1, .int (nI j)), (2, .int (nI dd))] := hl
  have hown : s.vm.findClass cn_M = some m.cls := hown
  refine lv_aload_n hx hb dd_M_usable_0 rfl (lv_at hl 0 rfl) ?_
  refine lv_aload_n hx hb dd_M_usable_1 rfl (lv_at hl 0 rfl) ?_
  refine lv_iload_n hx hb dd_M_usable_2 rfl (lv_at hl 1 rfl) ?_
  refine cx_after (cx_rV (n := 1) (As := [.int (nI j)]) (rest := [.ref h0]) ⟨hx, hb, hml, hown, hg⟩ (c_M_isHydrant l z D ac sa P h0 ma mv th (nI n) al (nI t) so (nI j) mw) (cx_gv gm_M_95 gi_M_isHydrant gs_M_isHydrant gn_M gc_M_isHydrant) (by decide +kernel) ⟨by decide, by decide⟩ hK hw mw.1 rfl rfl hl.1 rfl (Nat.le_of_ble_eq_true rfl) dd_M_usable_3 ⟨by decide, by decide⟩) hw (fun v9 P9 H locs hp hw => ?_)
  obtain ⟨rfl, e9⟩ := hp
  rw [e9] at hw
  clear e9 P9
  refine W.eq (g2 := F0 m 6 ls [.int (su_in (nI j) 0 ((nI n) - 1)), .ref h0]) rfl ?_
  refine W.eq (g2 := F0 m 6 ls [.int (1 : Int32), .ref h0]) (by rw [show (su_in (nI j) 0 ((nI n) - 1)) = (1 : Int32) from su_hin_i hj (by omega)]) ?_
  refine lv_iload_n hx hb dd_M_usable_6 rfl (lv_at hl 2 rfl) ?_
  refine cx_after (cx_rS (n := 1) (As := [.int (nI dd)]) (rest := [.int (1 : Int32), .ref h0]) ⟨hx, hb, hml, hown, hg⟩ (c_M_isDay l z D ac sa P (nI dd)) (cx_gs gm_M_98 gt_M_isDay gn_M gc_M_isDay) (by decide +kernel) ⟨by decide, by decide⟩ hK hw rfl hl.1 rfl (Nat.le_of_ble_eq_true rfl) dd_M_usable_7 ⟨by decide, by decide⟩) hw (fun v9 P9 H locs hp hw => ?_)
  obtain ⟨rfl, e9⟩ := hp
  rw [e9] at hw
  clear e9 P9
  refine W.eq (g2 := F0 m 10 ls [.int (su_in (nI dd) 0 99999), .int (1 : Int32), .ref h0]) rfl ?_
  refine W.eq (g2 := F0 m 10 ls [.int (1 : Int32), .int (1 : Int32), .ref h0]) (by rw [show (su_in (nI dd) 0 99999) = (1 : Int32) from su_in_1 (b := 99999) (by decide) hdd rfl]) ?_
  refine lv_iconst (v := 1) hx hb dd_M_usable_10 (by decide) ?_
  refine lv_iconst (v := 1) hx hb dd_M_usable_11 (by decide) ?_
  refine cx_after (cx_rV (n := 4) (As := [.int (1 : Int32), .int (1 : Int32), .int (1 : Int32), .int (1 : Int32)]) (rest := []) ⟨hx, hb, hml, hown, hg⟩ (c_M_goes l z D ac sa P h0 ma mv th (nI n) al (nI t) so (1 : Int32) (1 : Int32) (1 : Int32) (1 : Int32) mw) (cx_gv gm_M_83 gi_M_goes gs_M_goes gn_M gc_M_goes) (by decide +kernel) ⟨by decide, by decide⟩ hK hw mw.1 rfl rfl hl.1 rfl (Nat.le_of_ble_eq_true rfl) dd_M_usable_12 ⟨by decide, by decide⟩) hw (fun v9 P9 H locs hp hw => ?_)
  obtain ⟨rfl, e9⟩ := hp
  rw [e9] at hw
  clear e9 P9
  refine W.eq (g2 := F0 m 15 ls [.int (if (su_gs (1 : Int32) (1 : Int32) (1 : Int32) (1 : Int32)) = 0 then 1 else 0)]) rfl ?_
  obtain ⟨P31, eP31⟩ : ∃ pmv : pm_T, pmv = pm_up P h0 (md_o ma (su_gs (1 : Int32) (1 : Int32) (1 : Int32) (1 : Int32)) (nI n) al (nI t) so) := ⟨_, rfl⟩
  have hw : pm_W z D cl_w (pm_up P h0 (md_o ma (su_gs (1 : Int32) (1 : Int32) (1 : Int32) (1 : Int32)) (nI n) al (nI t) so)) s.heap H _ := hw
  rw [← eP31] at hw
  have mwP31 : md_W P31 ac h0 ma mv (su_gs (1 : Int32) (1 : Int32) (1 : Int32) (1 : Int32)) (nI n) al (nI t) so := by rw [eP31]; exact md_W.obj mw
  have mfP31 : md_F P P31 h0 ma := by rw [eP31]; exact md_F.obj md_F.rf
  refine W.eq (g2 := F0 m 15 ls [.int (1 : Int32)]) (by rw [show (if (su_gs (1 : Int32) (1 : Int32) (1 : Int32) (1 : Int32)) = 0 then 1 else 0) = (1 : Int32) from by decide]) ?_
  refine lv_if_eq (tgt := 31) hx hb dd_M_usable_15 (by decide) (fun c32 => absurd c32 (by decide)) (fun c32 => ?_)
  refine lv_aload_n hx hb dd_M_usable_18 rfl (lv_at hl 0 rfl) ?_
  refine lv_iload_n hx hb dd_M_usable_19 rfl (lv_at hl 1 rfl) ?_
  refine lv_iload_n hx hb dd_M_usable_20 rfl (lv_at hl 2 rfl) ?_
  refine cx_after (cx_rV (n := 2) (As := [.int (nI j), .int (nI dd)]) (rest := []) ⟨hx, hb, hml, hown, hg⟩ (c_M_isUsable l z D ac sa P31 h0 ma mv (su_gs (1 : Int32) (1 : Int32) (1 : Int32) (1 : Int32)) al so n t hn40 ht100 j (by omega) dd hdd w hw3 hmw mwP31) (cx_gv gm_M_121 gi_M_isUsable gs_M_isUsable gn_M gc_M_isUsable) (by decide +kernel) ⟨by decide, by decide⟩ hK hw mwP31.1 rfl rfl hl.1 rfl (Nat.le_of_ble_eq_true rfl) dd_M_usable_21 ⟨by decide, by decide⟩) hw (fun v9 P9 H locs hp hw => ?_)
  obtain ⟨rfl, e9⟩ := hp
  rw [e9] at hw
  clear e9 P9
  refine W.eq (g2 := F0 m 24 ls [.int (su_mus mv al j dd w)]) rfl ?_
  refine lv_if_eq (tgt := 31) hx hb dd_M_usable_24 (by decide) (fun c33 => ?_) (fun c33 => ?_)
  · skip
    refine lv_iconst (v := 0) hx hb dd_M_usable_31 (by decide) ?_
    refine cx_iret (v := (0 : Int32)) hx hb hr (by decide) hlocks hw dd_M_usable_32 (by decide) (by decide) ?_
    exact ⟨by rw [c33], mwP31, mfP31⟩
  · skip
    refine lv_iconst (v := 1) hx hb dd_M_usable_27 (by decide) ?_
    refine lv_goto (tgt := 32) hx hb dd_M_usable_28 (by decide) ?_
    refine cx_iret (v := (1 : Int32)) hx hb hr (by decide) hlocks hw dd_M_usable_32 (by decide) (by decide) ?_
    exact ⟨by rw [su_mus01.resolve_left c33], mwP31, mfP31⟩

set_option maxHeartbeats 4000000 in
set_option maxRecDepth 100000 in
theorem c_M_whole (l : Launch) (z : Nat) (D : va_G) (ac : Nat → ClassId) (sa : Nat → Nat) (P : pm_T) (h0 : Nat) (ma : Nat → Nat) (mv : Nat → Nat → Int32) (th al so : Int32) (n t : Nat) (hn40 : n ≤ 40) (ht100 : t ≤ 100) (j i : Nat) (p2 : Int32) (hq : su_cm (mv 10) (mv 11) (nI j) t = some i) (hz : ¬ su_mdn mv i p2 = 0) (mw : md_W P ac h0 ma mv th (nI n) al (nI t) so)  : cx_M l yy_M_whole bb_M_whole 3 (some .int) ({ frames := 3, cells := 0, slots := 0, locals := 90 } : Room) z D ac sa P [.ref h0, .int (nI j), .int p2] (fun v P' => v = some (.int (su_mup mv i p2 / su_mdn mv i p2)) ∧ P' = P) := by
  refine cx_ofM (by decide) (Nat.le_of_ble_eq_true rfl) (fun p e s m below meth c ls hx hb hr hml hg hown hlocks hin hK hw hl => ?_)
  have hl : lv_has ls 3 [(0, .ref h0), (1, .int (nI j)), (2, .int p2)] := hl
  have hown : s.vm.findClass cn_M = some m.cls := hown
  have hi9 : i < 100 := by have := su_cm_lt hq; omega
  refine lv_aload_n hx hb dd_M_whole_0 rfl (lv_at hl 0 rfl) ?_
  refine lv_aload_n hx hb dd_M_whole_1 rfl (lv_at hl 0 rfl) ?_
  refine lv_iload_n hx hb dd_M_whole_2 rfl (lv_at hl 1 rfl) ?_
  refine cx_after (cx_rV (n := 1) (As := [.int (nI j)]) (rest := [.ref h0]) ⟨hx, hb, hml, hown, hg⟩ (c_M_counts l z D ac sa P h0 ma mv th (nI n) al (nI t) so (nI j) t ht100 rfl mw) (cx_gv gm_M_107 gi_M_counts gs_M_counts gn_M gc_M_counts) (by decide +kernel) ⟨by decide, by decide⟩ hK hw mw.1 rfl rfl hl.1 rfl (Nat.le_of_ble_eq_true rfl) dd_M_whole_3 ⟨by decide, by decide⟩) hw (fun v9 P9 H locs hp hw => ?_)
  obtain ⟨rfl, e9⟩ := hp
  rw [e9] at hw
  clear e9 P9
  refine W.eq (g2 := F0 m 6 ls [.int (su_oi (su_cm (mv 10) (mv 11) (nI j) t)), .ref h0]) rfl ?_
  refine W.eq (g2 := F0 m 6 ls [.int (nI i), .ref h0]) (by rw [show (su_oi (su_cm (mv 10) (mv 11) (nI j) t)) = (nI i) from by rw [hq]; rfl]) ?_
  refine lv_iload_n hx hb dd_M_whole_6 rfl (lv_at hl 2 rfl) ?_
  refine cx_after (cx_rV (n := 2) (As := [.int (nI i), .int p2]) (rest := []) ⟨hx, hb, hml, hown, hg⟩ (c_M_up l z D ac sa P h0 ma mv th (nI n) al (nI t) so i p2 (by omega) mw) (cx_gv gm_M_118 gi_M_up gs_M_up gn_M gc_M_up) (by decide +kernel) ⟨by decide, by decide⟩ hK hw mw.1 rfl rfl hl.1 rfl (Nat.le_of_ble_eq_true rfl) dd_M_whole_7 ⟨by decide, by decide⟩) hw (fun v9 P9 H locs hp hw => ?_)
  obtain ⟨rfl, e9⟩ := hp
  rw [e9] at hw
  clear e9 P9
  refine W.eq (g2 := F0 m 10 ls [.int (su_mup mv i p2)]) rfl ?_
  refine lv_aload_n hx hb dd_M_whole_10 rfl (lv_at hl 0 rfl) ?_
  refine lv_aload_n hx hb dd_M_whole_11 rfl (lv_at hl 0 rfl) ?_
  refine lv_iload_n hx hb dd_M_whole_12 rfl (lv_at hl 1 rfl) ?_
  refine cx_after (cx_rV (n := 1) (As := [.int (nI j)]) (rest := [.ref h0, .int (su_mup mv i p2)]) ⟨hx, hb, hml, hown, hg⟩ (c_M_counts l z D ac sa P h0 ma mv th (nI n) al (nI t) so (nI j) t ht100 rfl mw) (cx_gv gm_M_107 gi_M_counts gs_M_counts gn_M gc_M_counts) (by decide +kernel) ⟨by decide, by decide⟩ hK hw mw.1 rfl rfl hl.1 rfl (Nat.le_of_ble_eq_true rfl) dd_M_whole_13 ⟨by decide, by decide⟩) hw (fun v9 P9 H locs hp hw => ?_)
  obtain ⟨rfl, e9⟩ := hp
  rw [e9] at hw
  clear e9 P9
  refine W.eq (g2 := F0 m 16 ls [.int (su_oi (su_cm (mv 10) (mv 11) (nI j) t)), .ref h0, .int (su_mup mv i p2)]) rfl ?_
  refine W.eq (g2 := F0 m 16 ls [.int (nI i), .ref h0, .int (su_mup mv i p2)]) (by rw [show (su_oi (su_cm (mv 10) (mv 11) (nI j) t)) = (nI i) from by rw [hq]; rfl]) ?_
  refine lv_iload_n hx hb dd_M_whole_16 rfl (lv_at hl 2 rfl) ?_
  refine cx_after (cx_rV (n := 2) (As := [.int (nI i), .int p2]) (rest := [.int (su_mup mv i p2)]) ⟨hx, hb, hml, hown, hg⟩ (c_M_down l z D ac sa P h0 ma mv th (nI n) al (nI t) so i p2 (by omega) mw) (cx_gv gm_M_114 gi_M_down gs_M_down gn_M gc_M_down) (by decide +kernel) ⟨by decide, by decide⟩ hK hw mw.1 rfl rfl hl.1 rfl (Nat.le_of_ble_eq_true rfl) dd_M_whole_17 ⟨by decide, by decide⟩) hw (fun v9 P9 H locs hp hw => ?_)
  obtain ⟨rfl, e9⟩ := hp
  rw [e9] at hw
  clear e9 P9
  refine W.eq (g2 := F0 m 20 ls [.int (su_mdn mv i p2), .int (su_mup mv i p2)]) rfl ?_
  refine lv_idiv hx hb dd_M_whole_20 hz ?_
  refine cx_iret (v := ((su_mup mv i p2) / (su_mdn mv i p2))) hx hb hr rfl hlocks hw dd_M_whole_21 (by decide) (by decide) ?_
  exact ⟨rfl, rfl⟩

set_option maxHeartbeats 4000000 in
set_option maxRecDepth 100000 in
theorem c_M_late (l : Launch) (z : Nat) (D : va_G) (ac : Nat → ClassId) (sa : Nat → Nat) (P : pm_T) (h0 : Nat) (ma : Nat → Nat) (mv : Nat → Nat → Int32) (th al so : Int32) (n t : Nat) (hn40 : n ≤ 40) (ht100 : t ≤ 100) (j : Nat) (p2 p3 : Int32) (mw : md_W P ac h0 ma mv th (nI n) al (nI t) so)  : cx_M l yy_M_late bb_M_late 5 (some .int) ({ frames := 1, cells := 0, slots := 0, locals := 30 } : Room) z D ac sa P [.ref h0, .int (nI j), .int p2, .int p3] (fun v P' => v = some (.int (su_lat mv t p2 p3 j)) ∧ P' = P) := by
  refine cx_ofM (by decide) (Nat.le_of_ble_eq_true rfl) (fun p e s m below meth c ls hx hb hr hml hg hown hlocks hin hK hw hl => ?_)
  have hl : lv_has ls 5 [(0, .ref h0), (1, .int (nI j)), (2, .int p2), (3, .int p3)] := hl
  have hown : s.vm.findClass cn_M = some m.cls := hown
  rcases hq : su_cm (mv 10) (mv 11) (nI j) t with _ | i
  · skip
    refine lv_aload_n hx hb dd_M_late_0 rfl (lv_at hl 0 rfl) ?_
    refine lv_iload_n hx hb dd_M_late_1 rfl (lv_at hl 1 rfl) ?_
    refine cx_after (cx_rV (n := 1) (As := [.int (nI j)]) (rest := []) ⟨hx, hb, hml, hown, hg⟩ (c_M_counts l z D ac sa P h0 ma mv th (nI n) al (nI t) so (nI j) t ht100 rfl mw) (cx_gv gm_M_107 gi_M_counts gs_M_counts gn_M gc_M_counts) (by decide +kernel) ⟨by decide, by decide⟩ hK hw mw.1 rfl rfl hl.1 rfl (Nat.le_of_ble_eq_true rfl) dd_M_late_2 ⟨by decide, by decide⟩) hw (fun v9 P9 H locs hp hw => ?_)
    obtain ⟨rfl, e9⟩ := hp
    rw [e9] at hw
    clear e9 P9
    refine W.eq (g2 := F0 m 5 ls [.int (su_oi (su_cm (mv 10) (mv 11) (nI j) t))]) rfl ?_
    refine W.eq (g2 := F0 m 5 ls [.int (-1 : Int32)]) (by rw [show (su_oi (su_cm (mv 10) (mv 11) (nI j) t)) = (-1 : Int32) from by rw [hq]; rfl]) ?_
    refine lv_istore (lv' := [(4, .int (-1 : Int32)), (0, .ref h0), (1, .int (nI j)), (2, .int p2), (3, .int p3)]) hx hb dd_M_late_5 hl (by decide) rfl (fun ls hl => ?_)
    refine lv_iload hx hb dd_M_late_7 (lv_at hl 0 rfl) ?_
    refine lv_if_ge (tgt := 14) hx hb dd_M_late_9 (by decide) (fun c31 => absurd c31 (by decide)) (fun c31 => ?_)
    refine lv_iconst (v := 0) hx hb dd_M_late_12 (by decide) ?_
    refine cx_iret (v := (0 : Int32)) hx hb hr rfl hlocks hw dd_M_late_13 (by decide) (by decide) ?_
    exact ⟨by simp only [su_lat, hq], rfl⟩
  · have hi9 : i < 100 := by have := su_cm_lt hq; omega
    refine lv_aload_n hx hb dd_M_late_0 rfl (lv_at hl 0 rfl) ?_
    refine lv_iload_n hx hb dd_M_late_1 rfl (lv_at hl 1 rfl) ?_
    refine cx_after (cx_rV (n := 1) (As := [.int (nI j)]) (rest := []) ⟨hx, hb, hml, hown, hg⟩ (c_M_counts l z D ac sa P h0 ma mv th (nI n) al (nI t) so (nI j) t ht100 rfl mw) (cx_gv gm_M_107 gi_M_counts gs_M_counts gn_M gc_M_counts) (by decide +kernel) ⟨by decide, by decide⟩ hK hw mw.1 rfl rfl hl.1 rfl (Nat.le_of_ble_eq_true rfl) dd_M_late_2 ⟨by decide, by decide⟩) hw (fun v9 P9 H locs hp hw => ?_)
    obtain ⟨rfl, e9⟩ := hp
    rw [e9] at hw
    clear e9 P9
    refine W.eq (g2 := F0 m 5 ls [.int (su_oi (su_cm (mv 10) (mv 11) (nI j) t))]) rfl ?_
    refine W.eq (g2 := F0 m 5 ls [.int (nI i)]) (by rw [show (su_oi (su_cm (mv 10) (mv 11) (nI j) t)) = (nI i) from by rw [hq]; rfl]) ?_
    refine lv_istore (lv' := [(4, .int (nI i)), (0, .ref h0), (1, .int (nI j)), (2, .int p2), (3, .int p3)]) hx hb dd_M_late_5 hl (by decide) rfl (fun ls hl => ?_)
    refine lv_iload hx hb dd_M_late_7 (lv_at hl 0 rfl) ?_
    refine lv_if_ge (tgt := 14) hx hb dd_M_late_9 (by decide) (fun c32 => ?_) (fun c32 => absurd (nI_pos' (by omega)) c32)
    refine lv_iload_n hx hb dd_M_late_14 rfl (lv_at hl 3 rfl) ?_
    refine lv_aload_n hx hb dd_M_late_15 rfl (lv_at hl 1 rfl) ?_
    refine pm_get (ci := 6) (C := cn_M) (T := cf_M) (N := 23) (v := .ref (ma 11)) hx hb hg gu_M hown hK.2.1 hw mw.1 rfl 15 (by decide) (hg _ gf_M_44) (fun _ h9 => h9) rfl dd_M_late_16 ?_
    refine lv_iload hx hb dd_M_late_19 (lv_at hl 0 rfl) ?_
    refine pm_iald hx hb hK.2.1 hw 0 (show P (ma 11) = some (.inl (ac 0, 100, .inl (mv 11))) from mw.2.1 11 (by decide)) rfl (vp_in_nI (by omega) (by decide)) dd_M_late_21 ?_
    refine W.eq (g2 := F0 m 22 ls [.int (mv 11 i), .int p2]) (by rw [show ((mv 11) ((nI i).toNatClampNeg)) = (mv 11 i) from by rw [nI_clamp (by omega)]]) ?_
    refine lv_isub hx hb dd_M_late_22 ?_
    refine lv_iload_n hx hb dd_M_late_23 rfl (lv_at hl 4 rfl) ?_
    refine lv_icmp_le (tgt := 39) hx hb dd_M_late_24 (by decide) (fun c33 => ?_) (fun c33 => ?_)
    · skip
      refine lv_iconst (v := (-1)) hx hb dd_M_late_39 (by decide) ?_
      refine cx_iret (v := (-1 : Int32)) hx hb hr rfl hlocks hw dd_M_late_40 (by decide) (by decide) ?_
      exact ⟨by simp only [su_lat, hq, if_pos c33], rfl⟩
    · skip
      refine lv_iconst (v := 1) hx hb dd_M_late_27 (by decide) ?_
      refine lv_aload_n hx hb dd_M_late_28 rfl (lv_at hl 1 rfl) ?_
      refine pm_get (ci := 6) (C := cn_M) (T := cf_M) (N := 23) (v := .ref (ma 11)) hx hb hg gu_M hown hK.2.1 hw mw.1 rfl 15 (by decide) (hg _ gf_M_44) (fun _ h9 => h9) rfl dd_M_late_29 ?_
      refine lv_iload hx hb dd_M_late_32 (lv_at hl 0 rfl) ?_
      refine pm_iald hx hb hK.2.1 hw 0 (show P (ma 11) = some (.inl (ac 0, 100, .inl (mv 11))) from mw.2.1 11 (by decide)) rfl (vp_in_nI (by omega) (by decide)) dd_M_late_34 ?_
      refine W.eq (g2 := F0 m 35 ls [.int (mv 11 i), .int (1 : Int32)]) (by rw [show ((mv 11) ((nI i).toNatClampNeg)) = (mv 11 i) from by rw [nI_clamp (by omega)]]) ?_
      refine lv_iadd hx hb dd_M_late_35 ?_
      refine lv_goto (tgt := 40) hx hb dd_M_late_36 (by decide) ?_
      refine cx_iret (v := ((1 : Int32) + (mv 11 i))) hx hb hr rfl hlocks hw dd_M_late_40 (by decide) (by decide) ?_
      exact ⟨by simp only [su_lat, hq, if_neg c33], rfl⟩

set_option maxHeartbeats 4000000 in
set_option maxRecDepth 100000 in
theorem c_M_bothA (l : Launch) (z : Nat) (D : va_G) (ac : Nat → ClassId) (sa : Nat → Nat) (P : pm_T) (h0 : Nat) (ma : Nat → Nat) (mv : Nat → Nat → Int32) (th al so : Int32) (n t : Nat) (hn40 : n ≤ 40) (ht100 : t ≤ 100) (p1 p2 p3 : Int32) (hA : su_in p1 0 (nI n - 1) = 0) (mw : md_W P ac h0 ma mv th (nI n) al (nI t) so)  : cx_M l yy_M_both bb_M_both 8 (some .int) ({ frames := 4, cells := 0, slots := 0, locals := 120 } : Room) z D ac sa P [.ref h0, .int p1, .int p2, .int p3] (fun v P' => v = some (.int 0) ∧ md_W P' ac h0 ma mv 1 (nI n) al (nI t) so ∧ md_F P P' h0 ma) := by
  refine cx_ofM (by decide) (Nat.le_of_ble_eq_true rfl) (fun p e s m below meth c ls hx hb hr hml hg hown hlocks hin hK hw hl => ?_)
  have hl : lv_has ls 8 [(0, .ref h0), (1, .int p1), (2, .int p2), (3, .int p3)] := hl
  have hown : s.vm.findClass cn_M = some m.cls := hown
  refine lv_aload_n hx hb dd_M_both_0 rfl (lv_at hl 0 rfl) ?_
  refine lv_iload_n hx hb dd_M_both_1 rfl (lv_at hl 1 rfl) ?_
  refine cx_after (cx_rV (n := 1) (As := [.int p1]) (rest := []) ⟨hx, hb, hml, hown, hg⟩ (c_M_isHydrant l z D ac sa P h0 ma mv th (nI n) al (nI t) so p1 mw) (cx_gv gm_M_95 gi_M_isHydrant gs_M_isHydrant gn_M gc_M_isHydrant) (by decide +kernel) ⟨by decide, by decide⟩ hK hw mw.1 rfl rfl hl.1 rfl (Nat.le_of_ble_eq_true rfl) dd_M_both_2 ⟨by decide, by decide⟩) hw (fun v9 P9 H locs hp hw => ?_)
  obtain ⟨rfl, e9⟩ := hp
  rw [e9] at hw
  clear e9 P9
  refine W.eq (g2 := F0 m 5 ls [.int (su_in p1 0 ((nI n) - 1))]) rfl ?_
  refine W.eq (g2 := F0 m 5 ls [.int (0 : Int32)]) (by rw [show (su_in p1 0 ((nI n) - 1)) = (0 : Int32) from hA]) ?_
  refine lv_if_eq (tgt := 25) hx hb dd_M_both_5 (by decide) (fun c31 => ?_) (fun c31 => absurd (by decide) c31)
  refine lv_iconst (v := 0) hx hb dd_M_both_25 (by decide) ?_
  refine lv_istore (lv' := [(4, .int (0 : Int32)), (0, .ref h0), (1, .int p1), (2, .int p2), (3, .int p3)]) hx hb dd_M_both_26 hl (by decide) rfl (fun ls hl => ?_)
  refine lv_iload hx hb dd_M_both_28 (lv_at hl 0 rfl) ?_
  refine lv_if_eq (tgt := 53) hx hb dd_M_both_30 (by decide) (fun c32 => ?_) (fun c32 => absurd (by decide) c32)
  refine lv_iconst (v := 0) hx hb dd_M_both_53 (by decide) ?_
  refine lv_istore (lv' := [(5, .int (0 : Int32)), (4, .int (0 : Int32)), (0, .ref h0), (1, .int p1), (2, .int p2), (3, .int p3)]) hx hb dd_M_both_54 hl (by decide) rfl (fun ls hl => ?_)
  refine lv_aload_n hx hb dd_M_both_56 rfl (lv_at hl 2 rfl) ?_
  refine lv_iload hx hb dd_M_both_57 (lv_at hl 1 rfl) ?_
  refine lv_iload_n hx hb dd_M_both_59 rfl (lv_at hl 5 rfl) ?_
  refine cx_after (cx_rS (n := 1) (As := [.int p3]) (rest := [.int (0 : Int32), .ref h0]) ⟨hx, hb, hml, hown, hg⟩ (c_M_isPressure l z D ac sa P p3) (cx_gs gm_M_101 gt_M_isPressure gn_M gc_M_isPressure) (by decide +kernel) ⟨by decide, by decide⟩ hK hw rfl hl.1 rfl (Nat.le_of_ble_eq_true rfl) dd_M_both_60 ⟨by decide, by decide⟩) hw (fun v9 P9 H locs hp hw => ?_)
  obtain ⟨rfl, e9⟩ := hp
  rw [e9] at hw
  clear e9 P9
  refine W.eq (g2 := F0 m 63 ls [.int (su_in p3 0 2000), .int (0 : Int32), .ref h0]) rfl ?_
  refine lv_iload hx hb dd_M_both_63 (lv_at hl 0 rfl) ?_
  refine lv_iload hx hb dd_M_both_65 (lv_at hl 0 rfl) ?_
  refine lv_if_eq (tgt := 100) hx hb dd_M_both_67 (by decide) (fun c33 => ?_) (fun c33 => absurd (by decide) c33)
  refine lv_iconst (v := 0) hx hb dd_M_both_100 (by decide) ?_
  refine cx_after (cx_rV (n := 4) (As := [.int (0 : Int32), .int (su_in p3 0 2000), .int (0 : Int32), .int (0 : Int32)]) (rest := []) ⟨hx, hb, hml, hown, hg⟩ (c_M_goes l z D ac sa P h0 ma mv th (nI n) al (nI t) so (0 : Int32) (su_in p3 0 2000) (0 : Int32) (0 : Int32) mw) (cx_gv gm_M_83 gi_M_goes gs_M_goes gn_M gc_M_goes) (by decide +kernel) ⟨by decide, by decide⟩ hK hw mw.1 rfl rfl hl.1 rfl (Nat.le_of_ble_eq_true rfl) dd_M_both_101 ⟨by decide, by decide⟩) hw (fun v9 P9 H locs hp hw => ?_)
  obtain ⟨rfl, e9⟩ := hp
  rw [e9] at hw
  clear e9 P9
  refine W.eq (g2 := F0 m 104 ls [.int (if (su_gs (0 : Int32) (su_in p3 0 2000) (0 : Int32) (0 : Int32)) = 0 then 1 else 0)]) rfl ?_
  obtain ⟨P34, eP34⟩ : ∃ pmv : pm_T, pmv = pm_up P h0 (md_o ma (su_gs (0 : Int32) (su_in p3 0 2000) (0 : Int32) (0 : Int32)) (nI n) al (nI t) so) := ⟨_, rfl⟩
  have hw : pm_W z D cl_w (pm_up P h0 (md_o ma (su_gs (0 : Int32) (su_in p3 0 2000) (0 : Int32) (0 : Int32)) (nI n) al (nI t) so)) s.heap H _ := hw
  rw [← eP34] at hw
  have mwP34 : md_W P34 ac h0 ma mv (su_gs (0 : Int32) (su_in p3 0 2000) (0 : Int32) (0 : Int32)) (nI n) al (nI t) so := by rw [eP34]; exact md_W.obj mw
  have mfP34 : md_F P P34 h0 ma := by rw [eP34]; exact md_F.obj md_F.rf
  refine W.eq (g2 := F0 m 104 ls [.int (0 : Int32)]) (by rw [show (if (su_gs (0 : Int32) (su_in p3 0 2000) (0 : Int32) (0 : Int32)) = 0 then 1 else 0) = (0 : Int32) from if_neg (fun h8 => (su_gs0 h8).1 rfl)]) ?_
  refine lv_if_ne (tgt := 109) hx hb dd_M_both_104 (by decide) (fun c35 => absurd (by decide) c35) (fun c35 => ?_)
  refine lv_iconst (v := 0) hx hb dd_M_both_107 (by decide) ?_
  refine cx_iret (v := (0 : Int32)) hx hb hr rfl hlocks hw dd_M_both_108 (by decide) (by decide) ?_
  exact ⟨rfl, by have h7 := mwP34; rw [show (su_gs (0 : Int32) (su_in p3 0 2000) (0 : Int32) (0 : Int32)) = 1 from by simp [su_gs]] at h7; exact h7, mfP34⟩

set_option maxHeartbeats 4000000 in
set_option maxRecDepth 100000 in
theorem c_M_bothB (l : Launch) (z : Nat) (D : va_G) (ac : Nat → ClassId) (sa : Nat → Nat) (P : pm_T) (h0 : Nat) (ma : Nat → Nat) (mv : Nat → Nat → Int32) (th al so : Int32) (n t : Nat) (hn40 : n ≤ 40) (ht100 : t ≤ 100) (j : Nat) (hj : j < n) (p2 p3 : Int32) (hA : su_in p2 0 (nI n - 1) = 0) (mw : md_W P ac h0 ma mv th (nI n) al (nI t) so)  : cx_M l yy_M_both bb_M_both 8 (some .int) ({ frames := 4, cells := 0, slots := 0, locals := 120 } : Room) z D ac sa P [.ref h0, .int (nI j), .int p2, .int p3] (fun v P' => v = some (.int 0) ∧ md_W P' ac h0 ma mv 1 (nI n) al (nI t) so ∧ md_F P P' h0 ma) := by
  refine cx_ofM (by decide) (Nat.le_of_ble_eq_true rfl) (fun p e s m below meth c ls hx hb hr hml hg hown hlocks hin hK hw hl => ?_)
  have hl : lv_has ls 8 [(0, .ref h0), (1, .int (nI j)), (2, .int p2), (3, .int p3)] := hl
  have hown : s.vm.findClass cn_M = some m.cls := hown
  refine lv_aload_n hx hb dd_M_both_0 rfl (lv_at hl 0 rfl) ?_
  refine lv_iload_n hx hb dd_M_both_1 rfl (lv_at hl 1 rfl) ?_
  refine cx_after (cx_rV (n := 1) (As := [.int (nI j)]) (rest := []) ⟨hx, hb, hml, hown, hg⟩ (c_M_isHydrant l z D ac sa P h0 ma mv th (nI n) al (nI t) so (nI j) mw) (cx_gv gm_M_95 gi_M_isHydrant gs_M_isHydrant gn_M gc_M_isHydrant) (by decide +kernel) ⟨by decide, by decide⟩ hK hw mw.1 rfl rfl hl.1 rfl (Nat.le_of_ble_eq_true rfl) dd_M_both_2 ⟨by decide, by decide⟩) hw (fun v9 P9 H locs hp hw => ?_)
  obtain ⟨rfl, e9⟩ := hp
  rw [e9] at hw
  clear e9 P9
  refine W.eq (g2 := F0 m 5 ls [.int (su_in (nI j) 0 ((nI n) - 1))]) rfl ?_
  refine W.eq (g2 := F0 m 5 ls [.int (1 : Int32)]) (by rw [show (su_in (nI j) 0 ((nI n) - 1)) = (1 : Int32) from su_hin_i hj (by omega)]) ?_
  refine lv_if_eq (tgt := 25) hx hb dd_M_both_5 (by decide) (fun c31 => absurd c31 (by decide)) (fun c31 => ?_)
  refine lv_aload_n hx hb dd_M_both_8 rfl (lv_at hl 0 rfl) ?_
  refine lv_iload_n hx hb dd_M_both_9 rfl (lv_at hl 2 rfl) ?_
  refine cx_after (cx_rV (n := 1) (As := [.int p2]) (rest := []) ⟨hx, hb, hml, hown, hg⟩ (c_M_isHydrant l z D ac sa P h0 ma mv th (nI n) al (nI t) so p2 mw) (cx_gv gm_M_95 gi_M_isHydrant gs_M_isHydrant gn_M gc_M_isHydrant) (by decide +kernel) ⟨by decide, by decide⟩ hK hw mw.1 rfl rfl hl.1 rfl (Nat.le_of_ble_eq_true rfl) dd_M_both_10 ⟨by decide, by decide⟩) hw (fun v9 P9 H locs hp hw => ?_)
  obtain ⟨rfl, e9⟩ := hp
  rw [e9] at hw
  clear e9 P9
  refine W.eq (g2 := F0 m 13 ls [.int (su_in p2 0 ((nI n) - 1))]) rfl ?_
  refine W.eq (g2 := F0 m 13 ls [.int (0 : Int32)]) (by rw [show (su_in p2 0 ((nI n) - 1)) = (0 : Int32) from hA]) ?_
  refine lv_if_eq (tgt := 25) hx hb dd_M_both_13 (by decide) (fun c32 => ?_) (fun c32 => absurd (by decide) c32)
  refine lv_iconst (v := 0) hx hb dd_M_both_25 (by decide) ?_
  refine lv_istore (lv' := [(4, .int (0 : Int32)), (0, .ref h0), (1, .int (nI j)), (2, .int p2), (3, .int p3)]) hx hb dd_M_both_26 hl (by decide) rfl (fun ls hl => ?_)
  refine lv_iload hx hb dd_M_both_28 (lv_at hl 0 rfl) ?_
  refine lv_if_eq (tgt := 53) hx hb dd_M_both_30 (by decide) (fun c33 => ?_) (fun c33 => absurd (by decide) c33)
  refine lv_iconst (v := 0) hx hb dd_M_both_53 (by decide) ?_
  refine lv_istore (lv' := [(5, .int (0 : Int32)), (4, .int (0 : Int32)), (0, .ref h0), (1, .int (nI j)), (2, .int p2), (3, .int p3)]) hx hb dd_M_both_54 hl (by decide) rfl (fun ls hl => ?_)
  refine lv_aload_n hx hb dd_M_both_56 rfl (lv_at hl 2 rfl) ?_
  refine lv_iload hx hb dd_M_both_57 (lv_at hl 1 rfl) ?_
  refine lv_iload_n hx hb dd_M_both_59 rfl (lv_at hl 5 rfl) ?_
  refine cx_after (cx_rS (n := 1) (As := [.int p3]) (rest := [.int (0 : Int32), .ref h0]) ⟨hx, hb, hml, hown, hg⟩ (c_M_isPressure l z D ac sa P p3) (cx_gs gm_M_101 gt_M_isPressure gn_M gc_M_isPressure) (by decide +kernel) ⟨by decide, by decide⟩ hK hw rfl hl.1 rfl (Nat.le_of_ble_eq_true rfl) dd_M_both_60 ⟨by decide, by decide⟩) hw (fun v9 P9 H locs hp hw => ?_)
  obtain ⟨rfl, e9⟩ := hp
  rw [e9] at hw
  clear e9 P9
  refine W.eq (g2 := F0 m 63 ls [.int (su_in p3 0 2000), .int (0 : Int32), .ref h0]) rfl ?_
  refine lv_iload hx hb dd_M_both_63 (lv_at hl 0 rfl) ?_
  refine lv_iload hx hb dd_M_both_65 (lv_at hl 0 rfl) ?_
  refine lv_if_eq (tgt := 100) hx hb dd_M_both_67 (by decide) (fun c34 => ?_) (fun c34 => absurd (by decide) c34)
  refine lv_iconst (v := 0) hx hb dd_M_both_100 (by decide) ?_
  refine cx_after (cx_rV (n := 4) (As := [.int (0 : Int32), .int (su_in p3 0 2000), .int (0 : Int32), .int (0 : Int32)]) (rest := []) ⟨hx, hb, hml, hown, hg⟩ (c_M_goes l z D ac sa P h0 ma mv th (nI n) al (nI t) so (0 : Int32) (su_in p3 0 2000) (0 : Int32) (0 : Int32) mw) (cx_gv gm_M_83 gi_M_goes gs_M_goes gn_M gc_M_goes) (by decide +kernel) ⟨by decide, by decide⟩ hK hw mw.1 rfl rfl hl.1 rfl (Nat.le_of_ble_eq_true rfl) dd_M_both_101 ⟨by decide, by decide⟩) hw (fun v9 P9 H locs hp hw => ?_)
  obtain ⟨rfl, e9⟩ := hp
  rw [e9] at hw
  clear e9 P9
  refine W.eq (g2 := F0 m 104 ls [.int (if (su_gs (0 : Int32) (su_in p3 0 2000) (0 : Int32) (0 : Int32)) = 0 then 1 else 0)]) rfl ?_
  obtain ⟨P35, eP35⟩ : ∃ pmv : pm_T, pmv = pm_up P h0 (md_o ma (su_gs (0 : Int32) (su_in p3 0 2000) (0 : Int32) (0 : Int32)) (nI n) al (nI t) so) := ⟨_, rfl⟩
  have hw : pm_W z D cl_w (pm_up P h0 (md_o ma (su_gs (0 : Int32) (su_in p3 0 2000) (0 : Int32) (0 : Int32)) (nI n) al (nI t) so)) s.heap H _ := hw
  rw [← eP35] at hw
  have mwP35 : md_W P35 ac h0 ma mv (su_gs (0 : Int32) (su_in p3 0 2000) (0 : Int32) (0 : Int32)) (nI n) al (nI t) so := by rw [eP35]; exact md_W.obj mw
  have mfP35 : md_F P P35 h0 ma := by rw [eP35]; exact md_F.obj md_F.rf
  refine W.eq (g2 := F0 m 104 ls [.int (0 : Int32)]) (by rw [show (if (su_gs (0 : Int32) (su_in p3 0 2000) (0 : Int32) (0 : Int32)) = 0 then 1 else 0) = (0 : Int32) from if_neg (fun h8 => (su_gs0 h8).1 rfl)]) ?_
  refine lv_if_ne (tgt := 109) hx hb dd_M_both_104 (by decide) (fun c36 => absurd (by decide) c36) (fun c36 => ?_)
  refine lv_iconst (v := 0) hx hb dd_M_both_107 (by decide) ?_
  refine cx_iret (v := (0 : Int32)) hx hb hr rfl hlocks hw dd_M_both_108 (by decide) (by decide) ?_
  exact ⟨rfl, by have h7 := mwP35; rw [show (su_gs (0 : Int32) (su_in p3 0 2000) (0 : Int32) (0 : Int32)) = 1 from by simp [su_gs]] at h7; exact h7, mfP35⟩

set_option maxHeartbeats 4000000 in
set_option maxRecDepth 100000 in
theorem c_M_bothE (l : Launch) (z : Nat) (D : va_G) (ac : Nat → ClassId) (sa : Nat → Nat) (P : pm_T) (h0 : Nat) (ma : Nat → Nat) (mv : Nat → Nat → Int32) (th al so : Int32) (n t : Nat) (hn40 : n ≤ 40) (ht100 : t ≤ 100) (j : Nat) (hj : j < n) (p3 : Int32) (mw : md_W P ac h0 ma mv th (nI n) al (nI t) so)  : cx_M l yy_M_both bb_M_both 8 (some .int) ({ frames := 4, cells := 0, slots := 0, locals := 120 } : Room) z D ac sa P [.ref h0, .int (nI j), .int (nI j), .int p3] (fun v P' => v = some (.int 0) ∧ md_W P' ac h0 ma mv 1 (nI n) al (nI t) so ∧ md_F P P' h0 ma) := by
  refine cx_ofM (by decide) (Nat.le_of_ble_eq_true rfl) (fun p e s m below meth c ls hx hb hr hml hg hown hlocks hin hK hw hl => ?_)
  have hl : lv_has ls 8 [(0, .ref h0), (1, .int (nI j)), (2, .int (nI j)), (3, .int p3)] := hl
  have hown : s.vm.findClass cn_M = some m.cls := hown
  refine lv_aload_n hx hb dd_M_both_0 rfl (lv_at hl 0 rfl) ?_
  refine lv_iload_n hx hb dd_M_both_1 rfl (lv_at hl 1 rfl) ?_
  refine cx_after (cx_rV (n := 1) (As := [.int (nI j)]) (rest := []) ⟨hx, hb, hml, hown, hg⟩ (c_M_isHydrant l z D ac sa P h0 ma mv th (nI n) al (nI t) so (nI j) mw) (cx_gv gm_M_95 gi_M_isHydrant gs_M_isHydrant gn_M gc_M_isHydrant) (by decide +kernel) ⟨by decide, by decide⟩ hK hw mw.1 rfl rfl hl.1 rfl (Nat.le_of_ble_eq_true rfl) dd_M_both_2 ⟨by decide, by decide⟩) hw (fun v9 P9 H locs hp hw => ?_)
  obtain ⟨rfl, e9⟩ := hp
  rw [e9] at hw
  clear e9 P9
  refine W.eq (g2 := F0 m 5 ls [.int (su_in (nI j) 0 ((nI n) - 1))]) rfl ?_
  refine W.eq (g2 := F0 m 5 ls [.int (1 : Int32)]) (by rw [show (su_in (nI j) 0 ((nI n) - 1)) = (1 : Int32) from su_hin_i hj (by omega)]) ?_
  refine lv_if_eq (tgt := 25) hx hb dd_M_both_5 (by decide) (fun c31 => absurd c31 (by decide)) (fun c31 => ?_)
  refine lv_aload_n hx hb dd_M_both_8 rfl (lv_at hl 0 rfl) ?_
  refine lv_iload_n hx hb dd_M_both_9 rfl (lv_at hl 2 rfl) ?_
  refine cx_after (cx_rV (n := 1) (As := [.int (nI j)]) (rest := []) ⟨hx, hb, hml, hown, hg⟩ (c_M_isHydrant l z D ac sa P h0 ma mv th (nI n) al (nI t) so (nI j) mw) (cx_gv gm_M_95 gi_M_isHydrant gs_M_isHydrant gn_M gc_M_isHydrant) (by decide +kernel) ⟨by decide, by decide⟩ hK hw mw.1 rfl rfl hl.1 rfl (Nat.le_of_ble_eq_true rfl) dd_M_both_10 ⟨by decide, by decide⟩) hw (fun v9 P9 H locs hp hw => ?_)
  obtain ⟨rfl, e9⟩ := hp
  rw [e9] at hw
  clear e9 P9
  refine W.eq (g2 := F0 m 13 ls [.int (su_in (nI j) 0 ((nI n) - 1))]) rfl ?_
  refine W.eq (g2 := F0 m 13 ls [.int (1 : Int32)]) (by rw [show (su_in (nI j) 0 ((nI n) - 1)) = (1 : Int32) from su_hin_i hj (by omega)]) ?_
  refine lv_if_eq (tgt := 25) hx hb dd_M_both_13 (by decide) (fun c32 => absurd c32 (by decide)) (fun c32 => ?_)
  refine lv_iload_n hx hb dd_M_both_16 rfl (lv_at hl 1 rfl) ?_
  refine lv_iload_n hx hb dd_M_both_17 rfl (lv_at hl 2 rfl) ?_
  refine lv_icmp_eq (tgt := 25) hx hb dd_M_both_18 (by decide) (fun c33 => ?_) (fun c33 => absurd rfl c33)
  refine lv_iconst (v := 0) hx hb dd_M_both_25 (by decide) ?_
  refine lv_istore (lv' := [(4, .int (0 : Int32)), (0, .ref h0), (1, .int (nI j)), (2, .int (nI j)), (3, .int p3)]) hx hb dd_M_both_26 hl (by decide) rfl (fun ls hl => ?_)
  refine lv_iload hx hb dd_M_both_28 (lv_at hl 0 rfl) ?_
  refine lv_if_eq (tgt := 53) hx hb dd_M_both_30 (by decide) (fun c34 => ?_) (fun c34 => absurd (by decide) c34)
  refine lv_iconst (v := 0) hx hb dd_M_both_53 (by decide) ?_
  refine lv_istore (lv' := [(5, .int (0 : Int32)), (4, .int (0 : Int32)), (0, .ref h0), (1, .int (nI j)), (2, .int (nI j)), (3, .int p3)]) hx hb dd_M_both_54 hl (by decide) rfl (fun ls hl => ?_)
  refine lv_aload_n hx hb dd_M_both_56 rfl (lv_at hl 2 rfl) ?_
  refine lv_iload hx hb dd_M_both_57 (lv_at hl 1 rfl) ?_
  refine lv_iload_n hx hb dd_M_both_59 rfl (lv_at hl 5 rfl) ?_
  refine cx_after (cx_rS (n := 1) (As := [.int p3]) (rest := [.int (0 : Int32), .ref h0]) ⟨hx, hb, hml, hown, hg⟩ (c_M_isPressure l z D ac sa P p3) (cx_gs gm_M_101 gt_M_isPressure gn_M gc_M_isPressure) (by decide +kernel) ⟨by decide, by decide⟩ hK hw rfl hl.1 rfl (Nat.le_of_ble_eq_true rfl) dd_M_both_60 ⟨by decide, by decide⟩) hw (fun v9 P9 H locs hp hw => ?_)
  obtain ⟨rfl, e9⟩ := hp
  rw [e9] at hw
  clear e9 P9
  refine W.eq (g2 := F0 m 63 ls [.int (su_in p3 0 2000), .int (0 : Int32), .ref h0]) rfl ?_
  refine lv_iload hx hb dd_M_both_63 (lv_at hl 0 rfl) ?_
  refine lv_iload hx hb dd_M_both_65 (lv_at hl 0 rfl) ?_
  refine lv_if_eq (tgt := 100) hx hb dd_M_both_67 (by decide) (fun c35 => ?_) (fun c35 => absurd (by decide) c35)
  refine lv_iconst (v := 0) hx hb dd_M_both_100 (by decide) ?_
  refine cx_after (cx_rV (n := 4) (As := [.int (0 : Int32), .int (su_in p3 0 2000), .int (0 : Int32), .int (0 : Int32)]) (rest := []) ⟨hx, hb, hml, hown, hg⟩ (c_M_goes l z D ac sa P h0 ma mv th (nI n) al (nI t) so (0 : Int32) (su_in p3 0 2000) (0 : Int32) (0 : Int32) mw) (cx_gv gm_M_83 gi_M_goes gs_M_goes gn_M gc_M_goes) (by decide +kernel) ⟨by decide, by decide⟩ hK hw mw.1 rfl rfl hl.1 rfl (Nat.le_of_ble_eq_true rfl) dd_M_both_101 ⟨by decide, by decide⟩) hw (fun v9 P9 H locs hp hw => ?_)
  obtain ⟨rfl, e9⟩ := hp
  rw [e9] at hw
  clear e9 P9
  refine W.eq (g2 := F0 m 104 ls [.int (if (su_gs (0 : Int32) (su_in p3 0 2000) (0 : Int32) (0 : Int32)) = 0 then 1 else 0)]) rfl ?_
  obtain ⟨P36, eP36⟩ : ∃ pmv : pm_T, pmv = pm_up P h0 (md_o ma (su_gs (0 : Int32) (su_in p3 0 2000) (0 : Int32) (0 : Int32)) (nI n) al (nI t) so) := ⟨_, rfl⟩
  have hw : pm_W z D cl_w (pm_up P h0 (md_o ma (su_gs (0 : Int32) (su_in p3 0 2000) (0 : Int32) (0 : Int32)) (nI n) al (nI t) so)) s.heap H _ := hw
  rw [← eP36] at hw
  have mwP36 : md_W P36 ac h0 ma mv (su_gs (0 : Int32) (su_in p3 0 2000) (0 : Int32) (0 : Int32)) (nI n) al (nI t) so := by rw [eP36]; exact md_W.obj mw
  have mfP36 : md_F P P36 h0 ma := by rw [eP36]; exact md_F.obj md_F.rf
  refine W.eq (g2 := F0 m 104 ls [.int (0 : Int32)]) (by rw [show (if (su_gs (0 : Int32) (su_in p3 0 2000) (0 : Int32) (0 : Int32)) = 0 then 1 else 0) = (0 : Int32) from if_neg (fun h8 => (su_gs0 h8).1 rfl)]) ?_
  refine lv_if_ne (tgt := 109) hx hb dd_M_both_104 (by decide) (fun c37 => absurd (by decide) c37) (fun c37 => ?_)
  refine lv_iconst (v := 0) hx hb dd_M_both_107 (by decide) ?_
  refine cx_iret (v := (0 : Int32)) hx hb hr rfl hlocks hw dd_M_both_108 (by decide) (by decide) ?_
  exact ⟨rfl, by have h7 := mwP36; rw [show (su_gs (0 : Int32) (su_in p3 0 2000) (0 : Int32) (0 : Int32)) = 1 from by simp [su_gs]] at h7; exact h7, mfP36⟩

set_option maxHeartbeats 4000000 in
set_option maxRecDepth 100000 in
theorem c_M_bothF (l : Launch) (z : Nat) (D : va_G) (ac : Nat → ClassId) (sa : Nat → Nat) (P : pm_T) (h0 : Nat) (ma : Nat → Nat) (mv : Nat → Nat → Int32) (th al so : Int32) (n t : Nat) (hn40 : n ≤ 40) (ht100 : t ≤ 100) (j : Nat) (hj : j < n) (j2 : Nat) (hj2 : j2 < n) (hne : ¬ j = j2) (p3 : Int32) (hq : su_cm (mv 10) (mv 11) (nI j) t = none) (mw : md_W P ac h0 ma mv th (nI n) al (nI t) so)  : cx_M l yy_M_both bb_M_both 8 (some .int) ({ frames := 4, cells := 0, slots := 0, locals := 120 } : Room) z D ac sa P [.ref h0, .int (nI j), .int (nI j2), .int p3] (fun v P' => v = some (.int 0) ∧ md_W P' ac h0 ma mv (su_gs (1 : Int32) (su_in p3 0 2000) (0 : Int32) (0 : Int32)) (nI n) al (nI t) so ∧ md_F P P' h0 ma) := by
  refine cx_ofM (by decide) (Nat.le_of_ble_eq_true rfl) (fun p e s m below meth c ls hx hb hr hml hg hown hlocks hin hK hw hl => ?_)
  have hl : lv_has ls 8 [(0, .ref h0), (1, .int (nI j)), (2, .int (nI j2)), (3, .int p3)] := hl
  have hown : s.vm.findClass cn_M = some m.cls := hown
  refine lv_aload_n hx hb dd_M_both_0 rfl (lv_at hl 0 rfl) ?_
  refine lv_iload_n hx hb dd_M_both_1 rfl (lv_at hl 1 rfl) ?_
  refine cx_after (cx_rV (n := 1) (As := [.int (nI j)]) (rest := []) ⟨hx, hb, hml, hown, hg⟩ (c_M_isHydrant l z D ac sa P h0 ma mv th (nI n) al (nI t) so (nI j) mw) (cx_gv gm_M_95 gi_M_isHydrant gs_M_isHydrant gn_M gc_M_isHydrant) (by decide +kernel) ⟨by decide, by decide⟩ hK hw mw.1 rfl rfl hl.1 rfl (Nat.le_of_ble_eq_true rfl) dd_M_both_2 ⟨by decide, by decide⟩) hw (fun v9 P9 H locs hp hw => ?_)
  obtain ⟨rfl, e9⟩ := hp
  rw [e9] at hw
  clear e9 P9
  refine W.eq (g2 := F0 m 5 ls [.int (su_in (nI j) 0 ((nI n) - 1))]) rfl ?_
  refine W.eq (g2 := F0 m 5 ls [.int (1 : Int32)]) (by rw [show (su_in (nI j) 0 ((nI n) - 1)) = (1 : Int32) from su_hin_i hj (by omega)]) ?_
  refine lv_if_eq (tgt := 25) hx hb dd_M_both_5 (by decide) (fun c31 => absurd c31 (by decide)) (fun c31 => ?_)
  refine lv_aload_n hx hb dd_M_both_8 rfl (lv_at hl 0 rfl) ?_
  refine lv_iload_n hx hb dd_M_both_9 rfl (lv_at hl 2 rfl) ?_
  refine cx_after (cx_rV (n := 1) (As := [.int (nI j2)]) (rest := []) ⟨hx, hb, hml, hown, hg⟩ (c_M_isHydrant l z D ac sa P h0 ma mv th (nI n) al (nI t) so (nI j2) mw) (cx_gv gm_M_95 gi_M_isHydrant gs_M_isHydrant gn_M gc_M_isHydrant) (by decide +kernel) ⟨by decide, by decide⟩ hK hw mw.1 rfl rfl hl.1 rfl (Nat.le_of_ble_eq_true rfl) dd_M_both_10 ⟨by decide, by decide⟩) hw (fun v9 P9 H locs hp hw => ?_)
  obtain ⟨rfl, e9⟩ := hp
  rw [e9] at hw
  clear e9 P9
  refine W.eq (g2 := F0 m 13 ls [.int (su_in (nI j2) 0 ((nI n) - 1))]) rfl ?_
  refine W.eq (g2 := F0 m 13 ls [.int (1 : Int32)]) (by rw [show (su_in (nI j2) 0 ((nI n) - 1)) = (1 : Int32) from su_hin_i hj2 (by omega)]) ?_
  refine lv_if_eq (tgt := 25) hx hb dd_M_both_13 (by decide) (fun c32 => absurd c32 (by decide)) (fun c32 => ?_)
  refine lv_iload_n hx hb dd_M_both_16 rfl (lv_at hl 1 rfl) ?_
  refine lv_iload_n hx hb dd_M_both_17 rfl (lv_at hl 2 rfl) ?_
  refine lv_icmp_eq (tgt := 25) hx hb dd_M_both_18 (by decide) (fun c33 => absurd c33 (fun h => hne ((nI_eq (by omega) (by omega)).mp h))) (fun c33 => ?_)
  refine lv_iconst (v := 1) hx hb dd_M_both_21 (by decide) ?_
  refine lv_goto (tgt := 26) hx hb dd_M_both_22 (by decide) ?_
  refine lv_istore (lv' := [(4, .int (1 : Int32)), (0, .ref h0), (1, .int (nI j)), (2, .int (nI j2)), (3, .int p3)]) hx hb dd_M_both_26 hl (by decide) rfl (fun ls hl => ?_)
  refine lv_iload hx hb dd_M_both_28 (lv_at hl 0 rfl) ?_
  refine lv_if_eq (tgt := 53) hx hb dd_M_both_30 (by decide) (fun c34 => absurd c34 (by decide)) (fun c34 => ?_)
  refine lv_aload_n hx hb dd_M_both_33 rfl (lv_at hl 1 rfl) ?_
  refine lv_iload_n hx hb dd_M_both_34 rfl (lv_at hl 2 rfl) ?_
  refine cx_after (cx_rV (n := 1) (As := [.int (nI j)]) (rest := []) ⟨hx, hb, hml, hown, hg⟩ (c_M_counts l z D ac sa P h0 ma mv th (nI n) al (nI t) so (nI j) t ht100 rfl mw) (cx_gv gm_M_107 gi_M_counts gs_M_counts gn_M gc_M_counts) (by decide +kernel) ⟨by decide, by decide⟩ hK hw mw.1 rfl rfl hl.1 rfl (Nat.le_of_ble_eq_true rfl) dd_M_both_35 ⟨by decide, by decide⟩) hw (fun v9 P9 H locs hp hw => ?_)
  obtain ⟨rfl, e9⟩ := hp
  rw [e9] at hw
  clear e9 P9
  refine W.eq (g2 := F0 m 38 ls [.int (su_oi (su_cm (mv 10) (mv 11) (nI j) t))]) rfl ?_
  refine W.eq (g2 := F0 m 38 ls [.int (-1 : Int32)]) (by rw [show (su_oi (su_cm (mv 10) (mv 11) (nI j) t)) = (-1 : Int32) from by rw [hq]; rfl]) ?_
  refine lv_if_lt (tgt := 53) hx hb dd_M_both_38 (by decide) (fun c35 => ?_) (fun c35 => absurd (by decide) c35)
  refine lv_iconst (v := 0) hx hb dd_M_both_53 (by decide) ?_
  refine lv_istore (lv' := [(5, .int (0 : Int32)), (4, .int (1 : Int32)), (0, .ref h0), (1, .int (nI j)), (2, .int (nI j2)), (3, .int p3)]) hx hb dd_M_both_54 hl (by decide) rfl (fun ls hl => ?_)
  refine lv_aload_n hx hb dd_M_both_56 rfl (lv_at hl 2 rfl) ?_
  refine lv_iload hx hb dd_M_both_57 (lv_at hl 1 rfl) ?_
  refine lv_iload_n hx hb dd_M_both_59 rfl (lv_at hl 5 rfl) ?_
  refine cx_after (cx_rS (n := 1) (As := [.int p3]) (rest := [.int (1 : Int32), .ref h0]) ⟨hx, hb, hml, hown, hg⟩ (c_M_isPressure l z D ac sa P p3) (cx_gs gm_M_101 gt_M_isPressure gn_M gc_M_isPressure) (by decide +kernel) ⟨by decide, by decide⟩ hK hw rfl hl.1 rfl (Nat.le_of_ble_eq_true rfl) dd_M_both_60 ⟨by decide, by decide⟩) hw (fun v9 P9 H locs hp hw => ?_)
  obtain ⟨rfl, e9⟩ := hp
  rw [e9] at hw
  clear e9 P9
  refine W.eq (g2 := F0 m 63 ls [.int (su_in p3 0 2000), .int (1 : Int32), .ref h0]) rfl ?_
  refine lv_iload hx hb dd_M_both_63 (lv_at hl 0 rfl) ?_
  refine lv_iload hx hb dd_M_both_65 (lv_at hl 0 rfl) ?_
  refine lv_if_eq (tgt := 100) hx hb dd_M_both_67 (by decide) (fun c36 => ?_) (fun c36 => absurd (by decide) c36)
  refine lv_iconst (v := 0) hx hb dd_M_both_100 (by decide) ?_
  refine cx_after (cx_rV (n := 4) (As := [.int (1 : Int32), .int (su_in p3 0 2000), .int (0 : Int32), .int (0 : Int32)]) (rest := []) ⟨hx, hb, hml, hown, hg⟩ (c_M_goes l z D ac sa P h0 ma mv th (nI n) al (nI t) so (1 : Int32) (su_in p3 0 2000) (0 : Int32) (0 : Int32) mw) (cx_gv gm_M_83 gi_M_goes gs_M_goes gn_M gc_M_goes) (by decide +kernel) ⟨by decide, by decide⟩ hK hw mw.1 rfl rfl hl.1 rfl (Nat.le_of_ble_eq_true rfl) dd_M_both_101 ⟨by decide, by decide⟩) hw (fun v9 P9 H locs hp hw => ?_)
  obtain ⟨rfl, e9⟩ := hp
  rw [e9] at hw
  clear e9 P9
  refine W.eq (g2 := F0 m 104 ls [.int (if (su_gs (1 : Int32) (su_in p3 0 2000) (0 : Int32) (0 : Int32)) = 0 then 1 else 0)]) rfl ?_
  obtain ⟨P37, eP37⟩ : ∃ pmv : pm_T, pmv = pm_up P h0 (md_o ma (su_gs (1 : Int32) (su_in p3 0 2000) (0 : Int32) (0 : Int32)) (nI n) al (nI t) so) := ⟨_, rfl⟩
  have hw : pm_W z D cl_w (pm_up P h0 (md_o ma (su_gs (1 : Int32) (su_in p3 0 2000) (0 : Int32) (0 : Int32)) (nI n) al (nI t) so)) s.heap H _ := hw
  rw [← eP37] at hw
  have mwP37 : md_W P37 ac h0 ma mv (su_gs (1 : Int32) (su_in p3 0 2000) (0 : Int32) (0 : Int32)) (nI n) al (nI t) so := by rw [eP37]; exact md_W.obj mw
  have mfP37 : md_F P P37 h0 ma := by rw [eP37]; exact md_F.obj md_F.rf
  refine W.eq (g2 := F0 m 104 ls [.int (0 : Int32)]) (by rw [show (if (su_gs (1 : Int32) (su_in p3 0 2000) (0 : Int32) (0 : Int32)) = 0 then 1 else 0) = (0 : Int32) from if_neg (fun h8 => (su_gs0 h8).2.2.1 rfl)]) ?_
  refine lv_if_ne (tgt := 109) hx hb dd_M_both_104 (by decide) (fun c38 => absurd (by decide) c38) (fun c38 => ?_)
  refine lv_iconst (v := 0) hx hb dd_M_both_107 (by decide) ?_
  refine cx_iret (v := (0 : Int32)) hx hb hr rfl hlocks hw dd_M_both_108 (by decide) (by decide) ?_
  exact ⟨rfl, mwP37, mfP37⟩

set_option maxHeartbeats 4000000 in
set_option maxRecDepth 100000 in
theorem c_M_bothG (l : Launch) (z : Nat) (D : va_G) (ac : Nat → ClassId) (sa : Nat → Nat) (P : pm_T) (h0 : Nat) (ma : Nat → Nat) (mv : Nat → Nat → Int32) (th al so : Int32) (n t : Nat) (hn40 : n ≤ 40) (ht100 : t ≤ 100) (j : Nat) (hj : j < n) (j2 : Nat) (hj2 : j2 < n) (hne : ¬ j = j2) (i : Nat) (p3 : Int32) (hq : su_cm (mv 10) (mv 11) (nI j) t = some i) (hq2 : su_cm (mv 10) (mv 11) (nI j2) t = none) (mw : md_W P ac h0 ma mv th (nI n) al (nI t) so)  : cx_M l yy_M_both bb_M_both 8 (some .int) ({ frames := 4, cells := 0, slots := 0, locals := 120 } : Room) z D ac sa P [.ref h0, .int (nI j), .int (nI j2), .int p3] (fun v P' => v = some (.int 0) ∧ md_W P' ac h0 ma mv (su_gs (1 : Int32) (su_in p3 0 2000) (0 : Int32) (0 : Int32)) (nI n) al (nI t) so ∧ md_F P P' h0 ma) := by
  refine cx_ofM (by decide) (Nat.le_of_ble_eq_true rfl) (fun p e s m below meth c ls hx hb hr hml hg hown hlocks hin hK hw hl => ?_)
  have hl : lv_has ls 8 [(0, .ref h0), (1, .int (nI j)), (2, .int (nI j2)), (3, .int p3)] := hl
  have hown : s.vm.findClass cn_M = some m.cls := hown
  have hi9 : i < 100 := by have := su_cm_lt hq; omega
  refine lv_aload_n hx hb dd_M_both_0 rfl (lv_at hl 0 rfl) ?_
  refine lv_iload_n hx hb dd_M_both_1 rfl (lv_at hl 1 rfl) ?_
  refine cx_after (cx_rV (n := 1) (As := [.int (nI j)]) (rest := []) ⟨hx, hb, hml, hown, hg⟩ (c_M_isHydrant l z D ac sa P h0 ma mv th (nI n) al (nI t) so (nI j) mw) (cx_gv gm_M_95 gi_M_isHydrant gs_M_isHydrant gn_M gc_M_isHydrant) (by decide +kernel) ⟨by decide, by decide⟩ hK hw mw.1 rfl rfl hl.1 rfl (Nat.le_of_ble_eq_true rfl) dd_M_both_2 ⟨by decide, by decide⟩) hw (fun v9 P9 H locs hp hw => ?_)
  obtain ⟨rfl, e9⟩ := hp
  rw [e9] at hw
  clear e9 P9
  refine W.eq (g2 := F0 m 5 ls [.int (su_in (nI j) 0 ((nI n) - 1))]) rfl ?_
  refine W.eq (g2 := F0 m 5 ls [.int (1 : Int32)]) (by rw [show (su_in (nI j) 0 ((nI n) - 1)) = (1 : Int32) from su_hin_i hj (by omega)]) ?_
  refine lv_if_eq (tgt := 25) hx hb dd_M_both_5 (by decide) (fun c31 => absurd c31 (by decide)) (fun c31 => ?_)
  refine lv_aload_n hx hb dd_M_both_8 rfl (lv_at hl 0 rfl) ?_
  refine lv_iload_n hx hb dd_M_both_9 rfl (lv_at hl 2 rfl) ?_
  refine cx_after (cx_rV (n := 1) (As := [.int (nI j2)]) (rest := []) ⟨hx, hb, hml, hown, hg⟩ (c_M_isHydrant l z D ac sa P h0 ma mv th (nI n) al (nI t) so (nI j2) mw) (cx_gv gm_M_95 gi_M_isHydrant gs_M_isHydrant gn_M gc_M_isHydrant) (by decide +kernel) ⟨by decide, by decide⟩ hK hw mw.1 rfl rfl hl.1 rfl (Nat.le_of_ble_eq_true rfl) dd_M_both_10 ⟨by decide, by decide⟩) hw (fun v9 P9 H locs hp hw => ?_)
  obtain ⟨rfl, e9⟩ := hp
  rw [e9] at hw
  clear e9 P9
  refine W.eq (g2 := F0 m 13 ls [.int (su_in (nI j2) 0 ((nI n) - 1))]) rfl ?_
  refine W.eq (g2 := F0 m 13 ls [.int (1 : Int32)]) (by rw [show (su_in (nI j2) 0 ((nI n) - 1)) = (1 : Int32) from su_hin_i hj2 (by omega)]) ?_
  refine lv_if_eq (tgt := 25) hx hb dd_M_both_13 (by decide) (fun c32 => absurd c32 (by decide)) (fun c32 => ?_)
  refine lv_iload_n hx hb dd_M_both_16 rfl (lv_at hl 1 rfl) ?_
  refine lv_iload_n hx hb dd_M_both_17 rfl (lv_at hl 2 rfl) ?_
  refine lv_icmp_eq (tgt := 25) hx hb dd_M_both_18 (by decide) (fun c33 => absurd c33 (fun h => hne ((nI_eq (by omega) (by omega)).mp h))) (fun c33 => ?_)
  refine lv_iconst (v := 1) hx hb dd_M_both_21 (by decide) ?_
  refine lv_goto (tgt := 26) hx hb dd_M_both_22 (by decide) ?_
  refine lv_istore (lv' := [(4, .int (1 : Int32)), (0, .ref h0), (1, .int (nI j)), (2, .int (nI j2)), (3, .int p3)]) hx hb dd_M_both_26 hl (by decide) rfl (fun ls hl => ?_)
  refine lv_iload hx hb dd_M_both_28 (lv_at hl 0 rfl) ?_
  refine lv_if_eq (tgt := 53) hx hb dd_M_both_30 (by decide) (fun c34 => absurd c34 (by decide)) (fun c34 => ?_)
  refine lv_aload_n hx hb dd_M_both_33 rfl (lv_at hl 1 rfl) ?_
  refine lv_iload_n hx hb dd_M_both_34 rfl (lv_at hl 2 rfl) ?_
  refine cx_after (cx_rV (n := 1) (As := [.int (nI j)]) (rest := []) ⟨hx, hb, hml, hown, hg⟩ (c_M_counts l z D ac sa P h0 ma mv th (nI n) al (nI t) so (nI j) t ht100 rfl mw) (cx_gv gm_M_107 gi_M_counts gs_M_counts gn_M gc_M_counts) (by decide +kernel) ⟨by decide, by decide⟩ hK hw mw.1 rfl rfl hl.1 rfl (Nat.le_of_ble_eq_true rfl) dd_M_both_35 ⟨by decide, by decide⟩) hw (fun v9 P9 H locs hp hw => ?_)
  obtain ⟨rfl, e9⟩ := hp
  rw [e9] at hw
  clear e9 P9
  refine W.eq (g2 := F0 m 38 ls [.int (su_oi (su_cm (mv 10) (mv 11) (nI j) t))]) rfl ?_
  refine W.eq (g2 := F0 m 38 ls [.int (nI i)]) (by rw [show (su_oi (su_cm (mv 10) (mv 11) (nI j) t)) = (nI i) from by rw [hq]; rfl]) ?_
  refine lv_if_lt (tgt := 53) hx hb dd_M_both_38 (by decide) (fun c35 => absurd c35 (nI_pos (by omega))) (fun c35 => ?_)
  refine lv_aload_n hx hb dd_M_both_41 rfl (lv_at hl 1 rfl) ?_
  refine lv_iload_n hx hb dd_M_both_42 rfl (lv_at hl 3 rfl) ?_
  refine cx_after (cx_rV (n := 1) (As := [.int (nI j2)]) (rest := []) ⟨hx, hb, hml, hown, hg⟩ (c_M_counts l z D ac sa P h0 ma mv th (nI n) al (nI t) so (nI j2) t ht100 rfl mw) (cx_gv gm_M_107 gi_M_counts gs_M_counts gn_M gc_M_counts) (by decide +kernel) ⟨by decide, by decide⟩ hK hw mw.1 rfl rfl hl.1 rfl (Nat.le_of_ble_eq_true rfl) dd_M_both_43 ⟨by decide, by decide⟩) hw (fun v9 P9 H locs hp hw => ?_)
  obtain ⟨rfl, e9⟩ := hp
  rw [e9] at hw
  clear e9 P9
  refine W.eq (g2 := F0 m 46 ls [.int (su_oi (su_cm (mv 10) (mv 11) (nI j2) t))]) rfl ?_
  refine W.eq (g2 := F0 m 46 ls [.int (-1 : Int32)]) (by rw [show (su_oi (su_cm (mv 10) (mv 11) (nI j2) t)) = (-1 : Int32) from by rw [hq2]; rfl]) ?_
  refine lv_if_lt (tgt := 53) hx hb dd_M_both_46 (by decide) (fun c36 => ?_) (fun c36 => absurd (by decide) c36)
  refine lv_iconst (v := 0) hx hb dd_M_both_53 (by decide) ?_
  refine lv_istore (lv' := [(5, .int (0 : Int32)), (4, .int (1 : Int32)), (0, .ref h0), (1, .int (nI j)), (2, .int (nI j2)), (3, .int p3)]) hx hb dd_M_both_54 hl (by decide) rfl (fun ls hl => ?_)
  refine lv_aload_n hx hb dd_M_both_56 rfl (lv_at hl 2 rfl) ?_
  refine lv_iload hx hb dd_M_both_57 (lv_at hl 1 rfl) ?_
  refine lv_iload_n hx hb dd_M_both_59 rfl (lv_at hl 5 rfl) ?_
  refine cx_after (cx_rS (n := 1) (As := [.int p3]) (rest := [.int (1 : Int32), .ref h0]) ⟨hx, hb, hml, hown, hg⟩ (c_M_isPressure l z D ac sa P p3) (cx_gs gm_M_101 gt_M_isPressure gn_M gc_M_isPressure) (by decide +kernel) ⟨by decide, by decide⟩ hK hw rfl hl.1 rfl (Nat.le_of_ble_eq_true rfl) dd_M_both_60 ⟨by decide, by decide⟩) hw (fun v9 P9 H locs hp hw => ?_)
  obtain ⟨rfl, e9⟩ := hp
  rw [e9] at hw
  clear e9 P9
  refine W.eq (g2 := F0 m 63 ls [.int (su_in p3 0 2000), .int (1 : Int32), .ref h0]) rfl ?_
  refine lv_iload hx hb dd_M_both_63 (lv_at hl 0 rfl) ?_
  refine lv_iload hx hb dd_M_both_65 (lv_at hl 0 rfl) ?_
  refine lv_if_eq (tgt := 100) hx hb dd_M_both_67 (by decide) (fun c37 => ?_) (fun c37 => absurd (by decide) c37)
  refine lv_iconst (v := 0) hx hb dd_M_both_100 (by decide) ?_
  refine cx_after (cx_rV (n := 4) (As := [.int (1 : Int32), .int (su_in p3 0 2000), .int (0 : Int32), .int (0 : Int32)]) (rest := []) ⟨hx, hb, hml, hown, hg⟩ (c_M_goes l z D ac sa P h0 ma mv th (nI n) al (nI t) so (1 : Int32) (su_in p3 0 2000) (0 : Int32) (0 : Int32) mw) (cx_gv gm_M_83 gi_M_goes gs_M_goes gn_M gc_M_goes) (by decide +kernel) ⟨by decide, by decide⟩ hK hw mw.1 rfl rfl hl.1 rfl (Nat.le_of_ble_eq_true rfl) dd_M_both_101 ⟨by decide, by decide⟩) hw (fun v9 P9 H locs hp hw => ?_)
  obtain ⟨rfl, e9⟩ := hp
  rw [e9] at hw
  clear e9 P9
  refine W.eq (g2 := F0 m 104 ls [.int (if (su_gs (1 : Int32) (su_in p3 0 2000) (0 : Int32) (0 : Int32)) = 0 then 1 else 0)]) rfl ?_
  obtain ⟨P38, eP38⟩ : ∃ pmv : pm_T, pmv = pm_up P h0 (md_o ma (su_gs (1 : Int32) (su_in p3 0 2000) (0 : Int32) (0 : Int32)) (nI n) al (nI t) so) := ⟨_, rfl⟩
  have hw : pm_W z D cl_w (pm_up P h0 (md_o ma (su_gs (1 : Int32) (su_in p3 0 2000) (0 : Int32) (0 : Int32)) (nI n) al (nI t) so)) s.heap H _ := hw
  rw [← eP38] at hw
  have mwP38 : md_W P38 ac h0 ma mv (su_gs (1 : Int32) (su_in p3 0 2000) (0 : Int32) (0 : Int32)) (nI n) al (nI t) so := by rw [eP38]; exact md_W.obj mw
  have mfP38 : md_F P P38 h0 ma := by rw [eP38]; exact md_F.obj md_F.rf
  refine W.eq (g2 := F0 m 104 ls [.int (0 : Int32)]) (by rw [show (if (su_gs (1 : Int32) (su_in p3 0 2000) (0 : Int32) (0 : Int32)) = 0 then 1 else 0) = (0 : Int32) from if_neg (fun h8 => (su_gs0 h8).2.2.1 rfl)]) ?_
  refine lv_if_ne (tgt := 109) hx hb dd_M_both_104 (by decide) (fun c39 => absurd (by decide) c39) (fun c39 => ?_)
  refine lv_iconst (v := 0) hx hb dd_M_both_107 (by decide) ?_
  refine cx_iret (v := (0 : Int32)) hx hb hr rfl hlocks hw dd_M_both_108 (by decide) (by decide) ?_
  exact ⟨rfl, mwP38, mfP38⟩

theorem su_an8l {a b : Int32} (h : ¬ su_an8 a b = 0) : ¬ a = 0 := fun h1 => h (by rw [su_an8, if_pos h1])
theorem su_an8r {a b : Int32} (h : ¬ su_an8 a b = 0) : ¬ b = 0 := fun h1 => h (by rw [su_an8, if_neg (su_an8l h), if_pos h1])

set_option maxHeartbeats 4000000 in
set_option maxRecDepth 100000 in
theorem c_M_bothC (l : Launch) (z : Nat) (D : va_G) (ac : Nat → ClassId) (sa : Nat → Nat) (P : pm_T) (h0 : Nat) (ma : Nat → Nat) (mv : Nat → Nat → Int32) (th al so : Int32) (n t : Nat) (hn40 : n ≤ 40) (ht100 : t ≤ 100) (j : Nat) (hj : j < n) (j2 : Nat) (hj2 : j2 < n) (hne : ¬ j = j2) (i i2 m9 : Nat) (hm9 : m9 < 20) (hmj : mv 2 j = nI m9) (p3 : Int32) (hq : su_cm (mv 10) (mv 11) (nI j) t = some i) (hq2 : su_cm (mv 10) (mv 11) (nI j2) t = some i2) (mw : md_W P ac h0 ma mv th (nI n) al (nI t) so)  : cx_M l yy_M_both bb_M_both 8 (some .int) ({ frames := 4, cells := 0, slots := 0, locals := 120 } : Room) z D ac sa P [.ref h0, .int (nI j), .int (nI j2), .int p3] (fun v P' => ((su_gs 1 (su_in p3 0 2000) 1 (su_an8 (su_mct mv i p3) (su_mct mv i2 p3))) = 0 → v = some (.int (su_mbo (su_mup mv i p3 / su_mdn mv i p3 + su_mup mv i2 p3 / su_mdn mv i2 p3) (mv 2 j) (mv 2 j2) (mv 9 m9))) ∧ md_W P' ac h0 ma mv (su_gs 1 (su_in p3 0 2000) 1 (su_an8 (su_mct mv i p3) (su_mct mv i2 p3))) (nI n) al (nI t) so) ∧ (¬ (su_gs 1 (su_in p3 0 2000) 1 (su_an8 (su_mct mv i p3) (su_mct mv i2 p3))) = 0 → v = some (.int 0) ∧ md_W P' ac h0 ma mv (su_gs 1 (su_in p3 0 2000) 1 (su_an8 (su_mct mv i p3) (su_mct mv i2 p3))) (nI n) al (nI t) so) ∧ md_F P P' h0 ma) := by
  refine cx_ofM (by decide) (Nat.le_of_ble_eq_true rfl) (fun p e s m below meth c ls hx hb hr hml hg hown hlocks hin hK hw hl => ?_)
  have hl : lv_has ls 8 [(0, .ref h0), (1, .int (nI j)), (2, .int (nI j2)), (3, .int p3)] := hl
  have hown : s.vm.findClass cn_M = some m.cls := hown
  have hi9 : i < 100 := by have := su_cm_lt hq; omega
  have hi8 : i2 < 100 := by have := su_cm_lt hq2; omega
  have j101 : ∀ (H : Heap) (locs : List Loc) (ls : Array Slot), pm_W z D cl_w P s.heap H locs → lv_has ls 8 [(5, .int (1 : Int32)), (4, .int (1 : Int32)), (0, .ref h0), (1, .int (nI j)), (2, .int (nI j2)), (3, .int p3)] → W p l e ({ frames := 4, cells := 0, slots := 0, locals := 120 } : Room) s m ([.ref h0, .int (nI j), .int (nI j2), .int p3] : List Value).toArray below meth c H locs 0 0 (MQ below (cx_Q z D (fun v P' => ((su_gs 1 (su_in p3 0 2000) 1 (su_an8 (su_mct mv i p3) (su_mct mv i2 p3))) = 0 → v = some (.int (su_mbo (su_mup mv i p3 / su_mdn mv i p3 + su_mup mv i2 p3 / su_mdn mv i2 p3) (mv 2 j) (mv 2 j2) (mv 9 m9))) ∧ md_W P' ac h0 ma mv (su_gs 1 (su_in p3 0 2000) 1 (su_an8 (su_mct mv i p3) (su_mct mv i2 p3))) (nI n) al (nI t) so) ∧ (¬ (su_gs 1 (su_in p3 0 2000) 1 (su_an8 (su_mct mv i p3) (su_mct mv i2 p3))) = 0 → v = some (.int 0) ∧ md_W P' ac h0 ma mv (su_gs 1 (su_in p3 0 2000) 1 (su_an8 (su_mct mv i p3) (su_mct mv i2 p3))) (nI n) al (nI t) so) ∧ md_F P P' h0 ma)) ([.ref h0, .int (nI j), .int (nI j2), .int p3] : List Value).toArray s ({ frames := 4, cells := 0, slots := 0, locals := 120 } : Room).cells ({ frames := 4, cells := 0, slots := 0, locals := 120 } : Room).slots (pm_A z)) (F0 m 101 ls [.int (su_an8 (su_mct mv i p3) (su_mct mv i2 p3)), .int (1 : Int32), .int (su_in p3 0 2000), .int (1 : Int32), .ref h0]) := by
    intro H locs ls hw hl
    refine cx_after (cx_rV (n := 4) (As := [.int (1 : Int32), .int (su_in p3 0 2000), .int (1 : Int32), .int (su_an8 (su_mct mv i p3) (su_mct mv i2 p3))]) (rest := []) ⟨hx, hb, hml, hown, hg⟩ (c_M_goes l z D ac sa P h0 ma mv th (nI n) al (nI t) so (1 : Int32) (su_in p3 0 2000) (1 : Int32) (su_an8 (su_mct mv i p3) (su_mct mv i2 p3)) mw) (cx_gv gm_M_83 gi_M_goes gs_M_goes gn_M gc_M_goes) (by decide +kernel) ⟨by decide, by decide⟩ hK hw mw.1 rfl rfl hl.1 rfl (Nat.le_of_ble_eq_true rfl) dd_M_both_101 ⟨by decide, by decide⟩) hw (fun v9 P9 H locs hp hw => ?_)
    obtain ⟨rfl, e9⟩ := hp
    rw [e9] at hw
    clear e9 P9
    refine W.eq (g2 := F0 m 104 ls [.int (if (su_gs (1 : Int32) (su_in p3 0 2000) (1 : Int32) (su_an8 (su_mct mv i p3) (su_mct mv i2 p3))) = 0 then 1 else 0)]) rfl ?_
    obtain ⟨P46, eP46⟩ : ∃ pmv : pm_T, pmv = pm_up P h0 (md_o ma (su_gs (1 : Int32) (su_in p3 0 2000) (1 : Int32) (su_an8 (su_mct mv i p3) (su_mct mv i2 p3))) (nI n) al (nI t) so) := ⟨_, rfl⟩
    have hw : pm_W z D cl_w (pm_up P h0 (md_o ma (su_gs (1 : Int32) (su_in p3 0 2000) (1 : Int32) (su_an8 (su_mct mv i p3) (su_mct mv i2 p3))) (nI n) al (nI t) so)) s.heap H _ := hw
    rw [← eP46] at hw
    have mwP46 : md_W P46 ac h0 ma mv (su_gs (1 : Int32) (su_in p3 0 2000) (1 : Int32) (su_an8 (su_mct mv i p3) (su_mct mv i2 p3))) (nI n) al (nI t) so := by rw [eP46]; exact md_W.obj mw
    have mfP46 : md_F P P46 h0 ma := by rw [eP46]; exact md_F.obj md_F.rf
    refine lv_if_ne (tgt := 109) hx hb dd_M_both_104 (by decide) (fun c47 => ?_) (fun c47 => ?_)
    · skip
      refine lv_aload_n hx hb dd_M_both_109 rfl (lv_at hl 2 rfl) ?_
      refine lv_iload_n hx hb dd_M_both_110 rfl (lv_at hl 3 rfl) ?_
      refine lv_iload_n hx hb dd_M_both_111 rfl (lv_at hl 5 rfl) ?_
      refine cx_after (cx_rV (n := 2) (As := [.int (nI j), .int p3]) (rest := []) ⟨hx, hb, hml, hown, hg⟩ (c_M_whole l z D ac sa P46 h0 ma mv (su_gs (1 : Int32) (su_in p3 0 2000) (1 : Int32) (su_an8 (su_mct mv i p3) (su_mct mv i2 p3))) al so n t hn40 ht100 j i p3 hq (su_mdn_nz (su_an8l (su_gs0 (su_nz c47)).2.2.2)) mwP46) (cx_gv gm_M_131 gi_M_whole gs_M_whole gn_M gc_M_whole) (by decide +kernel) ⟨by decide, by decide⟩ hK hw mwP46.1 rfl rfl hl.1 rfl (Nat.le_of_ble_eq_true rfl) dd_M_both_112 ⟨by decide, by decide⟩) hw (fun v9 P9 H locs hp hw => ?_)
      obtain ⟨rfl, e9⟩ := hp
      rw [e9] at hw
      clear e9 P9
      refine W.eq (g2 := F0 m 115 ls [.int ((su_mup mv i p3) / (su_mdn mv i p3))]) rfl ?_
      refine lv_aload_n hx hb dd_M_both_115 rfl (lv_at hl 2 rfl) ?_
      refine lv_iload_n hx hb dd_M_both_116 rfl (lv_at hl 4 rfl) ?_
      refine lv_iload_n hx hb dd_M_both_117 rfl (lv_at hl 5 rfl) ?_
      refine cx_after (cx_rV (n := 2) (As := [.int (nI j2), .int p3]) (rest := [.int ((su_mup mv i p3) / (su_mdn mv i p3))]) ⟨hx, hb, hml, hown, hg⟩ (c_M_whole l z D ac sa P46 h0 ma mv (su_gs (1 : Int32) (su_in p3 0 2000) (1 : Int32) (su_an8 (su_mct mv i p3) (su_mct mv i2 p3))) al so n t hn40 ht100 j2 i2 p3 hq2 (su_mdn_nz (su_an8r (su_gs0 (su_nz c47)).2.2.2)) mwP46) (cx_gv gm_M_131 gi_M_whole gs_M_whole gn_M gc_M_whole) (by decide +kernel) ⟨by decide, by decide⟩ hK hw mwP46.1 rfl rfl hl.1 rfl (Nat.le_of_ble_eq_true rfl) dd_M_both_118 ⟨by decide, by decide⟩) hw (fun v9 P9 H locs hp hw => ?_)
      obtain ⟨rfl, e9⟩ := hp
      rw [e9] at hw
      clear e9 P9
      refine W.eq (g2 := F0 m 121 ls [.int ((su_mup mv i2 p3) / (su_mdn mv i2 p3)), .int ((su_mup mv i p3) / (su_mdn mv i p3))]) rfl ?_
      refine lv_iadd hx hb dd_M_both_121 ?_
      refine lv_topi (fun x48 ex48 => ?_)
      refine lv_istore (lv' := [(6, .int x48), (5, .int (1 : Int32)), (4, .int (1 : Int32)), (0, .ref h0), (1, .int (nI j)), (2, .int (nI j2)), (3, .int p3)]) hx hb dd_M_both_122 hl (by decide) rfl (fun ls hl => ?_)
      refine lv_aload_n hx hb dd_M_both_124 rfl (lv_at hl 3 rfl) ?_
      refine pm_get (ci := 6) (C := cn_M) (T := cf_M) (N := 23) (v := .ref (ma 2)) hx hb hg gu_M hown hK.2.1 hw mwP46.1 rfl 4 (by decide) (hg _ gf_M_16) (fun _ h9 => h9) rfl dd_M_both_125 ?_
      refine lv_iload_n hx hb dd_M_both_128 rfl (lv_at hl 4 rfl) ?_
      refine pm_iald hx hb hK.2.1 hw 0 (show P46 (ma 2) = some (.inl (ac 0, 40, .inl (mv 2))) from mwP46.2.1 2 (by decide)) rfl (vp_in_nI (by omega) (by decide)) dd_M_both_129 ?_
      refine W.eq (g2 := F0 m 130 ls [.int (mv 2 j)]) (by rw [show ((mv 2) ((nI j).toNatClampNeg)) = (mv 2 j) from by rw [nI_clamp (by omega)]]) ?_
      refine W.eq (g2 := F0 m 130 ls [.int (nI m9)]) (by rw [show (mv 2 j) = (nI m9) from hmj]) ?_
      refine lv_aload_n hx hb dd_M_both_130 rfl (lv_at hl 3 rfl) ?_
      refine pm_get (ci := 6) (C := cn_M) (T := cf_M) (N := 23) (v := .ref (ma 2)) hx hb hg gu_M hown hK.2.1 hw mwP46.1 rfl 4 (by decide) (hg _ gf_M_16) (fun _ h9 => h9) rfl dd_M_both_131 ?_
      refine lv_iload_n hx hb dd_M_both_134 rfl (lv_at hl 5 rfl) ?_
      refine pm_iald hx hb hK.2.1 hw 0 (show P46 (ma 2) = some (.inl (ac 0, 40, .inl (mv 2))) from mwP46.2.1 2 (by decide)) rfl (vp_in_nI (by omega) (by decide)) dd_M_both_135 ?_
      refine W.eq (g2 := F0 m 136 ls [.int (mv 2 j2), .int (nI m9)]) (by rw [show ((mv 2) ((nI j2).toNatClampNeg)) = (mv 2 j2) from by rw [nI_clamp (by omega)]]) ?_
      refine lv_icmp_eq (tgt := 142) hx hb dd_M_both_136 (by decide) (fun c49 => ?_) (fun c49 => ?_)
      · skip
        refine lv_iconst (v := 3) hx hb dd_M_both_142 (by decide) ?_
        refine lv_iload hx hb dd_M_both_143 (lv_at hl 0 rfl) ?_
        refine lv_imul hx hb dd_M_both_145 ?_
        refine lv_iconst (v := 4) hx hb dd_M_both_146 (by decide) ?_
        refine lv_idiv hx hb dd_M_both_147 (by decide) ?_
        refine lv_topi (fun x50 ex50 => ?_)
        refine lv_istore (lv' := [(7, .int x50), (6, .int x48), (5, .int (1 : Int32)), (4, .int (1 : Int32)), (0, .ref h0), (1, .int (nI j)), (2, .int (nI j2)), (3, .int p3)]) hx hb dd_M_both_148 hl (by decide) rfl (fun ls hl => ?_)
        refine lv_iload hx hb dd_M_both_150 (lv_at hl 0 rfl) ?_
        refine lv_aload_n hx hb dd_M_both_152 rfl (lv_at hl 4 rfl) ?_
        refine pm_get (ci := 6) (C := cn_M) (T := cf_M) (N := 23) (v := .ref (ma 9)) hx hb hg gu_M hown hK.2.1 hw mwP46.1 rfl 11 (by decide) (hg _ gf_M_38) (fun _ h9 => h9) rfl dd_M_both_153 ?_
        refine lv_aload_n hx hb dd_M_both_156 rfl (lv_at hl 4 rfl) ?_
        refine pm_get (ci := 6) (C := cn_M) (T := cf_M) (N := 23) (v := .ref (ma 2)) hx hb hg gu_M hown hK.2.1 hw mwP46.1 rfl 4 (by decide) (hg _ gf_M_16) (fun _ h9 => h9) rfl dd_M_both_157 ?_
        refine lv_iload_n hx hb dd_M_both_160 rfl (lv_at hl 5 rfl) ?_
        refine pm_iald hx hb hK.2.1 hw 0 (show P46 (ma 2) = some (.inl (ac 0, 40, .inl (mv 2))) from mwP46.2.1 2 (by decide)) rfl (vp_in_nI (by omega) (by decide)) dd_M_both_161 ?_
        refine W.eq (g2 := F0 m 162 ls [.int (mv 2 j), .ref (ma 9), .int x50]) (by rw [show ((mv 2) ((nI j).toNatClampNeg)) = (mv 2 j) from by rw [nI_clamp (by omega)]]) ?_
        refine W.eq (g2 := F0 m 162 ls [.int (nI m9), .ref (ma 9), .int x50]) (by rw [show (mv 2 j) = (nI m9) from hmj]) ?_
        refine pm_iald hx hb hK.2.1 hw 0 (show P46 (ma 9) = some (.inl (ac 0, 20, .inl (mv 9))) from mwP46.2.1 9 (by decide)) rfl (vp_in_nI (by omega) (by decide)) dd_M_both_162 ?_
        refine W.eq (g2 := F0 m 163 ls [.int (mv 9 m9), .int x50]) (by rw [show ((mv 9) ((nI m9).toNatClampNeg)) = (mv 9 m9) from by rw [nI_clamp (by omega)]]) ?_
        refine lv_icmp_le (tgt := 180) hx hb dd_M_both_163 (by decide) (fun c51 => ?_) (fun c51 => ?_)
        · skip
          refine lv_iload hx hb dd_M_both_180 (lv_at hl 0 rfl) ?_
          refine cx_iret (v := x50) hx hb hr rfl hlocks hw dd_M_both_182 (by decide) (by decide) ?_
          exact ⟨fun _ => ⟨by rw [hmj, ← ex48, su_mbo, if_pos c49, ← ex50, if_pos c51], mwP46⟩, fun h8 => absurd (su_nz c47) h8, mfP46⟩
        · skip
          refine lv_aload_n hx hb dd_M_both_166 rfl (lv_at hl 4 rfl) ?_
          refine pm_get (ci := 6) (C := cn_M) (T := cf_M) (N := 23) (v := .ref (ma 9)) hx hb hg gu_M hown hK.2.1 hw mwP46.1 rfl 11 (by decide) (hg _ gf_M_38) (fun _ h9 => h9) rfl dd_M_both_167 ?_
          refine lv_aload_n hx hb dd_M_both_170 rfl (lv_at hl 4 rfl) ?_
          refine pm_get (ci := 6) (C := cn_M) (T := cf_M) (N := 23) (v := .ref (ma 2)) hx hb hg gu_M hown hK.2.1 hw mwP46.1 rfl 4 (by decide) (hg _ gf_M_16) (fun _ h9 => h9) rfl dd_M_both_171 ?_
          refine lv_iload_n hx hb dd_M_both_174 rfl (lv_at hl 5 rfl) ?_
          refine pm_iald hx hb hK.2.1 hw 0 (show P46 (ma 2) = some (.inl (ac 0, 40, .inl (mv 2))) from mwP46.2.1 2 (by decide)) rfl (vp_in_nI (by omega) (by decide)) dd_M_both_175 ?_
          refine W.eq (g2 := F0 m 176 ls [.int (mv 2 j), .ref (ma 9)]) (by rw [show ((mv 2) ((nI j).toNatClampNeg)) = (mv 2 j) from by rw [nI_clamp (by omega)]]) ?_
          refine W.eq (g2 := F0 m 176 ls [.int (nI m9), .ref (ma 9)]) (by rw [show (mv 2 j) = (nI m9) from hmj]) ?_
          refine pm_iald hx hb hK.2.1 hw 0 (show P46 (ma 9) = some (.inl (ac 0, 20, .inl (mv 9))) from mwP46.2.1 9 (by decide)) rfl (vp_in_nI (by omega) (by decide)) dd_M_both_176 ?_
          refine W.eq (g2 := F0 m 177 ls [.int (mv 9 m9)]) (by rw [show ((mv 9) ((nI m9).toNatClampNeg)) = (mv 9 m9) from by rw [nI_clamp (by omega)]]) ?_
          refine lv_goto (tgt := 182) hx hb dd_M_both_177 (by decide) ?_
          refine cx_iret (v := (mv 9 m9)) hx hb hr rfl hlocks hw dd_M_both_182 (by decide) (by decide) ?_
          exact ⟨fun _ => ⟨by rw [hmj, ← ex48, su_mbo, if_pos c49, ← ex50, if_neg c51], mwP46⟩, fun h8 => absurd (su_nz c47) h8, mfP46⟩
      · skip
        refine lv_iload hx hb dd_M_both_139 (lv_at hl 0 rfl) ?_
        refine cx_iret (v := x48) hx hb hr rfl hlocks hw dd_M_both_141 (by decide) (by decide) ?_
        exact ⟨fun _ => ⟨by rw [hmj, ← ex48, su_mbo, if_neg c49], mwP46⟩, fun h8 => absurd (su_nz c47) h8, mfP46⟩
    · skip
      refine lv_iconst (v := 0) hx hb dd_M_both_107 (by decide) ?_
      refine cx_iret (v := (0 : Int32)) hx hb hr rfl hlocks hw dd_M_both_108 (by decide) (by decide) ?_
      exact ⟨fun h8 => absurd h8 (su_iz c47), fun _ => ⟨rfl, mwP46⟩, mfP46⟩
  refine lv_aload_n hx hb dd_M_both_0 rfl (lv_at hl 0 rfl) ?_
  refine lv_iload_n hx hb dd_M_both_1 rfl (lv_at hl 1 rfl) ?_
  refine cx_after (cx_rV (n := 1) (As := [.int (nI j)]) (rest := []) ⟨hx, hb, hml, hown, hg⟩ (c_M_isHydrant l z D ac sa P h0 ma mv th (nI n) al (nI t) so (nI j) mw) (cx_gv gm_M_95 gi_M_isHydrant gs_M_isHydrant gn_M gc_M_isHydrant) (by decide +kernel) ⟨by decide, by decide⟩ hK hw mw.1 rfl rfl hl.1 rfl (Nat.le_of_ble_eq_true rfl) dd_M_both_2 ⟨by decide, by decide⟩) hw (fun v9 P9 H locs hp hw => ?_)
  obtain ⟨rfl, e9⟩ := hp
  rw [e9] at hw
  clear e9 P9
  refine W.eq (g2 := F0 m 5 ls [.int (su_in (nI j) 0 ((nI n) - 1))]) rfl ?_
  refine W.eq (g2 := F0 m 5 ls [.int (1 : Int32)]) (by rw [show (su_in (nI j) 0 ((nI n) - 1)) = (1 : Int32) from su_hin_i hj (by omega)]) ?_
  refine lv_if_eq (tgt := 25) hx hb dd_M_both_5 (by decide) (fun c52 => absurd c52 (by decide)) (fun c52 => ?_)
  refine lv_aload_n hx hb dd_M_both_8 rfl (lv_at hl 0 rfl) ?_
  refine lv_iload_n hx hb dd_M_both_9 rfl (lv_at hl 2 rfl) ?_
  refine cx_after (cx_rV (n := 1) (As := [.int (nI j2)]) (rest := []) ⟨hx, hb, hml, hown, hg⟩ (c_M_isHydrant l z D ac sa P h0 ma mv th (nI n) al (nI t) so (nI j2) mw) (cx_gv gm_M_95 gi_M_isHydrant gs_M_isHydrant gn_M gc_M_isHydrant) (by decide +kernel) ⟨by decide, by decide⟩ hK hw mw.1 rfl rfl hl.1 rfl (Nat.le_of_ble_eq_true rfl) dd_M_both_10 ⟨by decide, by decide⟩) hw (fun v9 P9 H locs hp hw => ?_)
  obtain ⟨rfl, e9⟩ := hp
  rw [e9] at hw
  clear e9 P9
  refine W.eq (g2 := F0 m 13 ls [.int (su_in (nI j2) 0 ((nI n) - 1))]) rfl ?_
  refine W.eq (g2 := F0 m 13 ls [.int (1 : Int32)]) (by rw [show (su_in (nI j2) 0 ((nI n) - 1)) = (1 : Int32) from su_hin_i hj2 (by omega)]) ?_
  refine lv_if_eq (tgt := 25) hx hb dd_M_both_13 (by decide) (fun c53 => absurd c53 (by decide)) (fun c53 => ?_)
  refine lv_iload_n hx hb dd_M_both_16 rfl (lv_at hl 1 rfl) ?_
  refine lv_iload_n hx hb dd_M_both_17 rfl (lv_at hl 2 rfl) ?_
  refine lv_icmp_eq (tgt := 25) hx hb dd_M_both_18 (by decide) (fun c54 => absurd c54 (fun h => hne ((nI_eq (by omega) (by omega)).mp h))) (fun c54 => ?_)
  refine lv_iconst (v := 1) hx hb dd_M_both_21 (by decide) ?_
  refine lv_goto (tgt := 26) hx hb dd_M_both_22 (by decide) ?_
  refine lv_istore (lv' := [(4, .int (1 : Int32)), (0, .ref h0), (1, .int (nI j)), (2, .int (nI j2)), (3, .int p3)]) hx hb dd_M_both_26 hl (by decide) rfl (fun ls hl => ?_)
  refine lv_iload hx hb dd_M_both_28 (lv_at hl 0 rfl) ?_
  refine lv_if_eq (tgt := 53) hx hb dd_M_both_30 (by decide) (fun c55 => absurd c55 (by decide)) (fun c55 => ?_)
  refine lv_aload_n hx hb dd_M_both_33 rfl (lv_at hl 1 rfl) ?_
  refine lv_iload_n hx hb dd_M_both_34 rfl (lv_at hl 2 rfl) ?_
  refine cx_after (cx_rV (n := 1) (As := [.int (nI j)]) (rest := []) ⟨hx, hb, hml, hown, hg⟩ (c_M_counts l z D ac sa P h0 ma mv th (nI n) al (nI t) so (nI j) t ht100 rfl mw) (cx_gv gm_M_107 gi_M_counts gs_M_counts gn_M gc_M_counts) (by decide +kernel) ⟨by decide, by decide⟩ hK hw mw.1 rfl rfl hl.1 rfl (Nat.le_of_ble_eq_true rfl) dd_M_both_35 ⟨by decide, by decide⟩) hw (fun v9 P9 H locs hp hw => ?_)
  obtain ⟨rfl, e9⟩ := hp
  rw [e9] at hw
  clear e9 P9
  refine W.eq (g2 := F0 m 38 ls [.int (su_oi (su_cm (mv 10) (mv 11) (nI j) t))]) rfl ?_
  refine W.eq (g2 := F0 m 38 ls [.int (nI i)]) (by rw [show (su_oi (su_cm (mv 10) (mv 11) (nI j) t)) = (nI i) from by rw [hq]; rfl]) ?_
  refine lv_if_lt (tgt := 53) hx hb dd_M_both_38 (by decide) (fun c56 => absurd c56 (nI_pos (by omega))) (fun c56 => ?_)
  refine lv_aload_n hx hb dd_M_both_41 rfl (lv_at hl 1 rfl) ?_
  refine lv_iload_n hx hb dd_M_both_42 rfl (lv_at hl 3 rfl) ?_
  refine cx_after (cx_rV (n := 1) (As := [.int (nI j2)]) (rest := []) ⟨hx, hb, hml, hown, hg⟩ (c_M_counts l z D ac sa P h0 ma mv th (nI n) al (nI t) so (nI j2) t ht100 rfl mw) (cx_gv gm_M_107 gi_M_counts gs_M_counts gn_M gc_M_counts) (by decide +kernel) ⟨by decide, by decide⟩ hK hw mw.1 rfl rfl hl.1 rfl (Nat.le_of_ble_eq_true rfl) dd_M_both_43 ⟨by decide, by decide⟩) hw (fun v9 P9 H locs hp hw => ?_)
  obtain ⟨rfl, e9⟩ := hp
  rw [e9] at hw
  clear e9 P9
  refine W.eq (g2 := F0 m 46 ls [.int (su_oi (su_cm (mv 10) (mv 11) (nI j2) t))]) rfl ?_
  refine W.eq (g2 := F0 m 46 ls [.int (nI i2)]) (by rw [show (su_oi (su_cm (mv 10) (mv 11) (nI j2) t)) = (nI i2) from by rw [hq2]; rfl]) ?_
  refine lv_if_lt (tgt := 53) hx hb dd_M_both_46 (by decide) (fun c57 => absurd c57 (nI_pos (by omega))) (fun c57 => ?_)
  refine lv_iconst (v := 1) hx hb dd_M_both_49 (by decide) ?_
  refine lv_goto (tgt := 54) hx hb dd_M_both_50 (by decide) ?_
  refine lv_istore (lv' := [(5, .int (1 : Int32)), (4, .int (1 : Int32)), (0, .ref h0), (1, .int (nI j)), (2, .int (nI j2)), (3, .int p3)]) hx hb dd_M_both_54 hl (by decide) rfl (fun ls hl => ?_)
  refine lv_aload_n hx hb dd_M_both_56 rfl (lv_at hl 2 rfl) ?_
  refine lv_iload hx hb dd_M_both_57 (lv_at hl 1 rfl) ?_
  refine lv_iload_n hx hb dd_M_both_59 rfl (lv_at hl 5 rfl) ?_
  refine cx_after (cx_rS (n := 1) (As := [.int p3]) (rest := [.int (1 : Int32), .ref h0]) ⟨hx, hb, hml, hown, hg⟩ (c_M_isPressure l z D ac sa P p3) (cx_gs gm_M_101 gt_M_isPressure gn_M gc_M_isPressure) (by decide +kernel) ⟨by decide, by decide⟩ hK hw rfl hl.1 rfl (Nat.le_of_ble_eq_true rfl) dd_M_both_60 ⟨by decide, by decide⟩) hw (fun v9 P9 H locs hp hw => ?_)
  obtain ⟨rfl, e9⟩ := hp
  rw [e9] at hw
  clear e9 P9
  refine W.eq (g2 := F0 m 63 ls [.int (su_in p3 0 2000), .int (1 : Int32), .ref h0]) rfl ?_
  refine lv_iload hx hb dd_M_both_63 (lv_at hl 0 rfl) ?_
  refine lv_iload hx hb dd_M_both_65 (lv_at hl 0 rfl) ?_
  refine lv_if_eq (tgt := 100) hx hb dd_M_both_67 (by decide) (fun c58 => absurd c58 (by decide)) (fun c58 => ?_)
  refine lv_aload_n hx hb dd_M_both_70 rfl (lv_at hl 2 rfl) ?_
  refine lv_aload_n hx hb dd_M_both_71 rfl (lv_at hl 2 rfl) ?_
  refine lv_iload_n hx hb dd_M_both_72 rfl (lv_at hl 3 rfl) ?_
  refine cx_after (cx_rV (n := 1) (As := [.int (nI j)]) (rest := [.ref h0, .int (1 : Int32), .int (su_in p3 0 2000), .int (1 : Int32), .ref h0]) ⟨hx, hb, hml, hown, hg⟩ (c_M_counts l z D ac sa P h0 ma mv th (nI n) al (nI t) so (nI j) t ht100 rfl mw) (cx_gv gm_M_107 gi_M_counts gs_M_counts gn_M gc_M_counts) (by decide +kernel) ⟨by decide, by decide⟩ hK hw mw.1 rfl rfl hl.1 rfl (Nat.le_of_ble_eq_true rfl) dd_M_both_73 ⟨by decide, by decide⟩) hw (fun v9 P9 H locs hp hw => ?_)
  obtain ⟨rfl, e9⟩ := hp
  rw [e9] at hw
  clear e9 P9
  refine W.eq (g2 := F0 m 76 ls [.int (su_oi (su_cm (mv 10) (mv 11) (nI j) t)), .ref h0, .int (1 : Int32), .int (su_in p3 0 2000), .int (1 : Int32), .ref h0]) rfl ?_
  refine W.eq (g2 := F0 m 76 ls [.int (nI i), .ref h0, .int (1 : Int32), .int (su_in p3 0 2000), .int (1 : Int32), .ref h0]) (by rw [show (su_oi (su_cm (mv 10) (mv 11) (nI j) t)) = (nI i) from by rw [hq]; rfl]) ?_
  refine lv_iload_n hx hb dd_M_both_76 rfl (lv_at hl 5 rfl) ?_
  refine cx_after (cx_rV (n := 2) (As := [.int (nI i), .int p3]) (rest := [.int (1 : Int32), .int (su_in p3 0 2000), .int (1 : Int32), .ref h0]) ⟨hx, hb, hml, hown, hg⟩ (c_M_canTell l z D ac sa P h0 ma mv th (nI n) al (nI t) so i p3 (by omega) mw) (cx_gv gm_M_111 gi_M_canTell gs_M_canTell gn_M gc_M_canTell) (by decide +kernel) ⟨by decide, by decide⟩ hK hw mw.1 rfl rfl hl.1 rfl (Nat.le_of_ble_eq_true rfl) dd_M_both_77 ⟨by decide, by decide⟩) hw (fun v9 P9 H locs hp hw => ?_)
  obtain ⟨rfl, e9⟩ := hp
  rw [e9] at hw
  clear e9 P9
  refine W.eq (g2 := F0 m 80 ls [.int (su_mct mv i p3), .int (1 : Int32), .int (su_in p3 0 2000), .int (1 : Int32), .ref h0]) rfl ?_
  refine lv_if_eq (tgt := 100) hx hb dd_M_both_80 (by decide) (fun c59 => ?_) (fun c59 => ?_)
  · skip
    refine lv_iconst (v := 0) hx hb dd_M_both_100 (by decide) ?_
    refine W.eq (g2 := F0 m 101 ls [.int (su_an8 (su_mct mv i p3) (su_mct mv i2 p3)), .int (1 : Int32), .int (su_in p3 0 2000), .int (1 : Int32), .ref h0]) (by rw [show (su_an8 (su_mct mv i p3) (su_mct mv i2 p3)) = (0 : Int32) from by rw [su_an8, if_pos c59]]) ?_
    exact j101 _ _ ls hw (lv_sub hl [0, 1, 2, 3, 4, 5] rfl)
  · skip
    refine lv_aload_n hx hb dd_M_both_83 rfl (lv_at hl 2 rfl) ?_
    refine lv_aload_n hx hb dd_M_both_84 rfl (lv_at hl 2 rfl) ?_
    refine lv_iload_n hx hb dd_M_both_85 rfl (lv_at hl 4 rfl) ?_
    refine cx_after (cx_rV (n := 1) (As := [.int (nI j2)]) (rest := [.ref h0, .int (1 : Int32), .int (su_in p3 0 2000), .int (1 : Int32), .ref h0]) ⟨hx, hb, hml, hown, hg⟩ (c_M_counts l z D ac sa P h0 ma mv th (nI n) al (nI t) so (nI j2) t ht100 rfl mw) (cx_gv gm_M_107 gi_M_counts gs_M_counts gn_M gc_M_counts) (by decide +kernel) ⟨by decide, by decide⟩ hK hw mw.1 rfl rfl hl.1 rfl (Nat.le_of_ble_eq_true rfl) dd_M_both_86 ⟨by decide, by decide⟩) hw (fun v9 P9 H locs hp hw => ?_)
    obtain ⟨rfl, e9⟩ := hp
    rw [e9] at hw
    clear e9 P9
    refine W.eq (g2 := F0 m 89 ls [.int (su_oi (su_cm (mv 10) (mv 11) (nI j2) t)), .ref h0, .int (1 : Int32), .int (su_in p3 0 2000), .int (1 : Int32), .ref h0]) rfl ?_
    refine W.eq (g2 := F0 m 89 ls [.int (nI i2), .ref h0, .int (1 : Int32), .int (su_in p3 0 2000), .int (1 : Int32), .ref h0]) (by rw [show (su_oi (su_cm (mv 10) (mv 11) (nI j2) t)) = (nI i2) from by rw [hq2]; rfl]) ?_
    refine lv_iload_n hx hb dd_M_both_89 rfl (lv_at hl 5 rfl) ?_
    refine cx_after (cx_rV (n := 2) (As := [.int (nI i2), .int p3]) (rest := [.int (1 : Int32), .int (su_in p3 0 2000), .int (1 : Int32), .ref h0]) ⟨hx, hb, hml, hown, hg⟩ (c_M_canTell l z D ac sa P h0 ma mv th (nI n) al (nI t) so i2 p3 (by omega) mw) (cx_gv gm_M_111 gi_M_canTell gs_M_canTell gn_M gc_M_canTell) (by decide +kernel) ⟨by decide, by decide⟩ hK hw mw.1 rfl rfl hl.1 rfl (Nat.le_of_ble_eq_true rfl) dd_M_both_90 ⟨by decide, by decide⟩) hw (fun v9 P9 H locs hp hw => ?_)
    obtain ⟨rfl, e9⟩ := hp
    rw [e9] at hw
    clear e9 P9
    refine W.eq (g2 := F0 m 93 ls [.int (su_mct mv i2 p3), .int (1 : Int32), .int (su_in p3 0 2000), .int (1 : Int32), .ref h0]) rfl ?_
    refine lv_if_eq (tgt := 100) hx hb dd_M_both_93 (by decide) (fun c60 => ?_) (fun c60 => ?_)
    · skip
      refine lv_iconst (v := 0) hx hb dd_M_both_100 (by decide) ?_
      refine W.eq (g2 := F0 m 101 ls [.int (su_an8 (su_mct mv i p3) (su_mct mv i2 p3)), .int (1 : Int32), .int (su_in p3 0 2000), .int (1 : Int32), .ref h0]) (by rw [show (su_an8 (su_mct mv i p3) (su_mct mv i2 p3)) = (0 : Int32) from by rw [su_an8, if_neg c59, if_pos c60]]) ?_
      exact j101 _ _ ls hw (lv_sub hl [0, 1, 2, 3, 4, 5] rfl)
    · skip
      refine lv_iconst (v := 1) hx hb dd_M_both_96 (by decide) ?_
      refine lv_goto (tgt := 101) hx hb dd_M_both_97 (by decide) ?_
      refine W.eq (g2 := F0 m 101 ls [.int (su_an8 (su_mct mv i p3) (su_mct mv i2 p3)), .int (1 : Int32), .int (su_in p3 0 2000), .int (1 : Int32), .ref h0]) (by rw [show (su_an8 (su_mct mv i p3) (su_mct mv i2 p3)) = (1 : Int32) from by rw [su_an8, if_neg c59, if_neg c60]]) ?_
      exact j101 _ _ ls hw (lv_sub hl [0, 1, 2, 3, 4, 5] rfl)

set_option maxHeartbeats 4000000 in
set_option maxRecDepth 100000 in
theorem c_M_testAtA (l : Launch) (z : Nat) (D : va_G) (ac : Nat → ClassId) (sa : Nat → Nat) (P : pm_T) (h0 : Nat) (ma : Nat → Nat) (mv : Nat → Nat → Int32) (th al so : Int32) (n t : Nat) (hn40 : n ≤ 40) (ht100 : t ≤ 100) (p1 p2 : Int32) (hA : su_in p1 0 (nI t - 1) = 0) (mw : md_W P ac h0 ma mv th (nI n) al (nI t) so)  : cx_M l yy_M_testAt bb_M_testAt 3 (some .int) ({ frames := 3, cells := 0, slots := 0, locals := 90 } : Room) z D ac sa P [.ref h0, .int p1, .int p2] (fun v P' => v = some (.int 0) ∧ md_W P' ac h0 ma mv 1 (nI n) al (nI t) so ∧ md_F P P' h0 ma) := by
  refine cx_ofM (by decide) (Nat.le_of_ble_eq_true rfl) (fun p e s m below meth c ls hx hb hr hml hg hown hlocks hin hK hw hl => ?_)
  have hl : lv_has ls 3 [(0, .ref h0), (1, .int p1), (2, .int p2)] := hl
  have hown : s.vm.findClass cn_M = some m.cls := hown
  refine lv_aload_n hx hb dd_M_testAt_0 rfl (lv_at hl 0 rfl) ?_
  refine lv_iload_n hx hb dd_M_testAt_1 rfl (lv_at hl 1 rfl) ?_
  refine lv_iconst (v := 0) hx hb dd_M_testAt_2 (by decide) ?_
  refine lv_aload_n hx hb dd_M_testAt_3 rfl (lv_at hl 0 rfl) ?_
  refine pm_get (ci := 6) (C := cn_M) (T := cf_M) (N := 23) (v := .int (nI t)) hx hb hg gu_M hown hK.2.1 hw mw.1 rfl 13 (by decide) (hg _ gf_M_104) (fun _ h9 => h9) rfl dd_M_testAt_4 ?_
  refine lv_iconst (v := 1) hx hb dd_M_testAt_7 (by decide) ?_
  refine lv_isub hx hb dd_M_testAt_8 ?_
  refine cx_after (cx_rS (n := 3) (As := [.int p1, .int (0 : Int32), .int ((nI t) - (1 : Int32))]) (rest := [.ref h0]) ⟨hx, hb, hml, hown, hg⟩ (c_M_in l z D ac sa P p1 (0 : Int32) ((nI t) - (1 : Int32))) (cx_gs gm_M_72 gt_M_in gn_M gc_M_in) (by decide +kernel) ⟨by decide, by decide⟩ hK hw rfl hl.1 rfl (Nat.le_of_ble_eq_true rfl) dd_M_testAt_9 ⟨by decide, by decide⟩) hw (fun v9 P9 H locs hp hw => ?_)
  obtain ⟨rfl, e9⟩ := hp
  rw [e9] at hw
  clear e9 P9
  refine W.eq (g2 := F0 m 12 ls [.int (su_in p1 (0 : Int32) ((nI t) - (1 : Int32))), .ref h0]) rfl ?_
  refine W.eq (g2 := F0 m 12 ls [.int (0 : Int32), .ref h0]) (by rw [show (su_in p1 (0 : Int32) ((nI t) - (1 : Int32))) = (0 : Int32) from hA]) ?_
  refine lv_if_eq (tgt := 28) hx hb dd_M_testAt_12 (by decide) (fun c31 => ?_) (fun c31 => absurd (by decide) c31)
  refine lv_iconst (v := 0) hx hb dd_M_testAt_28 (by decide) ?_
  refine lv_iconst (v := 1) hx hb dd_M_testAt_29 (by decide) ?_
  refine lv_iconst (v := 1) hx hb dd_M_testAt_30 (by decide) ?_
  refine lv_iconst (v := 1) hx hb dd_M_testAt_31 (by decide) ?_
  refine cx_after (cx_rV (n := 4) (As := [.int (0 : Int32), .int (1 : Int32), .int (1 : Int32), .int (1 : Int32)]) (rest := []) ⟨hx, hb, hml, hown, hg⟩ (c_M_goes l z D ac sa P h0 ma mv th (nI n) al (nI t) so (0 : Int32) (1 : Int32) (1 : Int32) (1 : Int32) mw) (cx_gv gm_M_83 gi_M_goes gs_M_goes gn_M gc_M_goes) (by decide +kernel) ⟨by decide, by decide⟩ hK hw mw.1 rfl rfl hl.1 rfl (Nat.le_of_ble_eq_true rfl) dd_M_testAt_32 ⟨by decide, by decide⟩) hw (fun v9 P9 H locs hp hw => ?_)
  obtain ⟨rfl, e9⟩ := hp
  rw [e9] at hw
  clear e9 P9
  refine W.eq (g2 := F0 m 35 ls [.int (if (su_gs (0 : Int32) (1 : Int32) (1 : Int32) (1 : Int32)) = 0 then 1 else 0)]) rfl ?_
  obtain ⟨P32, eP32⟩ : ∃ pmv : pm_T, pmv = pm_up P h0 (md_o ma (su_gs (0 : Int32) (1 : Int32) (1 : Int32) (1 : Int32)) (nI n) al (nI t) so) := ⟨_, rfl⟩
  have hw : pm_W z D cl_w (pm_up P h0 (md_o ma (su_gs (0 : Int32) (1 : Int32) (1 : Int32) (1 : Int32)) (nI n) al (nI t) so)) s.heap H _ := hw
  rw [← eP32] at hw
  have mwP32 : md_W P32 ac h0 ma mv (su_gs (0 : Int32) (1 : Int32) (1 : Int32) (1 : Int32)) (nI n) al (nI t) so := by rw [eP32]; exact md_W.obj mw
  have mfP32 : md_F P P32 h0 ma := by rw [eP32]; exact md_F.obj md_F.rf
  refine W.eq (g2 := F0 m 35 ls [.int (0 : Int32)]) (by rw [show (if (su_gs (0 : Int32) (1 : Int32) (1 : Int32) (1 : Int32)) = 0 then 1 else 0) = (0 : Int32) from if_neg (fun h8 => (su_gs0 h8).1 rfl)]) ?_
  refine lv_if_ne (tgt := 40) hx hb dd_M_testAt_35 (by decide) (fun c33 => absurd (by decide) c33) (fun c33 => ?_)
  refine lv_iconst (v := 0) hx hb dd_M_testAt_38 (by decide) ?_
  refine cx_iret (v := (0 : Int32)) hx hb hr rfl hlocks hw dd_M_testAt_39 (by decide) (by decide) ?_
  exact ⟨rfl, by have h7 := mwP32; rw [show (su_gs (0 : Int32) (1 : Int32) (1 : Int32) (1 : Int32)) = 1 from by simp [su_gs]] at h7; exact h7, mfP32⟩

set_option maxHeartbeats 4000000 in
set_option maxRecDepth 100000 in
theorem c_M_testAtB (l : Launch) (z : Nat) (D : va_G) (ac : Nat → ClassId) (sa : Nat → Nat) (P : pm_T) (h0 : Nat) (ma : Nat → Nat) (mv : Nat → Nat → Int32) (th al so : Int32) (n t : Nat) (hn40 : n ≤ 40) (ht100 : t ≤ 100) (p1 p2 : Int32) (hB : su_in p2 0 4 = 0) (mw : md_W P ac h0 ma mv th (nI n) al (nI t) so)  : cx_M l yy_M_testAt bb_M_testAt 3 (some .int) ({ frames := 3, cells := 0, slots := 0, locals := 90 } : Room) z D ac sa P [.ref h0, .int p1, .int p2] (fun v P' => v = some (.int 0) ∧ md_W P' ac h0 ma mv 1 (nI n) al (nI t) so ∧ md_F P P' h0 ma) := by
  refine cx_ofM (by decide) (Nat.le_of_ble_eq_true rfl) (fun p e s m below meth c ls hx hb hr hml hg hown hlocks hin hK hw hl => ?_)
  have hl : lv_has ls 3 [(0, .ref h0), (1, .int p1), (2, .int p2)] := hl
  have hown : s.vm.findClass cn_M = some m.cls := hown
  refine lv_aload_n hx hb dd_M_testAt_0 rfl (lv_at hl 0 rfl) ?_
  refine lv_iload_n hx hb dd_M_testAt_1 rfl (lv_at hl 1 rfl) ?_
  refine lv_iconst (v := 0) hx hb dd_M_testAt_2 (by decide) ?_
  refine lv_aload_n hx hb dd_M_testAt_3 rfl (lv_at hl 0 rfl) ?_
  refine pm_get (ci := 6) (C := cn_M) (T := cf_M) (N := 23) (v := .int (nI t)) hx hb hg gu_M hown hK.2.1 hw mw.1 rfl 13 (by decide) (hg _ gf_M_104) (fun _ h9 => h9) rfl dd_M_testAt_4 ?_
  refine lv_iconst (v := 1) hx hb dd_M_testAt_7 (by decide) ?_
  refine lv_isub hx hb dd_M_testAt_8 ?_
  refine cx_after (cx_rS (n := 3) (As := [.int p1, .int (0 : Int32), .int ((nI t) - (1 : Int32))]) (rest := [.ref h0]) ⟨hx, hb, hml, hown, hg⟩ (c_M_in l z D ac sa P p1 (0 : Int32) ((nI t) - (1 : Int32))) (cx_gs gm_M_72 gt_M_in gn_M gc_M_in) (by decide +kernel) ⟨by decide, by decide⟩ hK hw rfl hl.1 rfl (Nat.le_of_ble_eq_true rfl) dd_M_testAt_9 ⟨by decide, by decide⟩) hw (fun v9 P9 H locs hp hw => ?_)
  obtain ⟨rfl, e9⟩ := hp
  rw [e9] at hw
  clear e9 P9
  refine W.eq (g2 := F0 m 12 ls [.int (su_in p1 (0 : Int32) ((nI t) - (1 : Int32))), .ref h0]) rfl ?_
  refine lv_if_eq (tgt := 28) hx hb dd_M_testAt_12 (by decide) (fun c31 => ?_) (fun c31 => ?_)
  · skip
    refine lv_iconst (v := 0) hx hb dd_M_testAt_28 (by decide) ?_
    refine lv_iconst (v := 1) hx hb dd_M_testAt_29 (by decide) ?_
    refine lv_iconst (v := 1) hx hb dd_M_testAt_30 (by decide) ?_
    refine lv_iconst (v := 1) hx hb dd_M_testAt_31 (by decide) ?_
    refine cx_after (cx_rV (n := 4) (As := [.int (0 : Int32), .int (1 : Int32), .int (1 : Int32), .int (1 : Int32)]) (rest := []) ⟨hx, hb, hml, hown, hg⟩ (c_M_goes l z D ac sa P h0 ma mv th (nI n) al (nI t) so (0 : Int32) (1 : Int32) (1 : Int32) (1 : Int32) mw) (cx_gv gm_M_83 gi_M_goes gs_M_goes gn_M gc_M_goes) (by decide +kernel) ⟨by decide, by decide⟩ hK hw mw.1 rfl rfl hl.1 rfl (Nat.le_of_ble_eq_true rfl) dd_M_testAt_32 ⟨by decide, by decide⟩) hw (fun v9 P9 H locs hp hw => ?_)
    obtain ⟨rfl, e9⟩ := hp
    rw [e9] at hw
    clear e9 P9
    refine W.eq (g2 := F0 m 35 ls [.int (if (su_gs (0 : Int32) (1 : Int32) (1 : Int32) (1 : Int32)) = 0 then 1 else 0)]) rfl ?_
    obtain ⟨P32, eP32⟩ : ∃ pmv : pm_T, pmv = pm_up P h0 (md_o ma (su_gs (0 : Int32) (1 : Int32) (1 : Int32) (1 : Int32)) (nI n) al (nI t) so) := ⟨_, rfl⟩
    have hw : pm_W z D cl_w (pm_up P h0 (md_o ma (su_gs (0 : Int32) (1 : Int32) (1 : Int32) (1 : Int32)) (nI n) al (nI t) so)) s.heap H _ := hw
    rw [← eP32] at hw
    have mwP32 : md_W P32 ac h0 ma mv (su_gs (0 : Int32) (1 : Int32) (1 : Int32) (1 : Int32)) (nI n) al (nI t) so := by rw [eP32]; exact md_W.obj mw
    have mfP32 : md_F P P32 h0 ma := by rw [eP32]; exact md_F.obj md_F.rf
    refine W.eq (g2 := F0 m 35 ls [.int (0 : Int32)]) (by rw [show (if (su_gs (0 : Int32) (1 : Int32) (1 : Int32) (1 : Int32)) = 0 then 1 else 0) = (0 : Int32) from if_neg (fun h8 => (su_gs0 h8).1 rfl)]) ?_
    refine lv_if_ne (tgt := 40) hx hb dd_M_testAt_35 (by decide) (fun c33 => absurd (by decide) c33) (fun c33 => ?_)
    refine lv_iconst (v := 0) hx hb dd_M_testAt_38 (by decide) ?_
    refine cx_iret (v := (0 : Int32)) hx hb hr rfl hlocks hw dd_M_testAt_39 (by decide) (by decide) ?_
    exact ⟨rfl, by have h7 := mwP32; rw [show (su_gs (0 : Int32) (1 : Int32) (1 : Int32) (1 : Int32)) = 1 from by simp [su_gs]] at h7; exact h7, mfP32⟩
  · skip
    refine lv_iload_n hx hb dd_M_testAt_15 rfl (lv_at hl 2 rfl) ?_
    refine lv_iconst (v := 0) hx hb dd_M_testAt_16 (by decide) ?_
    refine lv_iconst (v := 4) hx hb dd_M_testAt_17 (by decide) ?_
    refine cx_after (cx_rS (n := 3) (As := [.int p2, .int (0 : Int32), .int (4 : Int32)]) (rest := [.ref h0]) ⟨hx, hb, hml, hown, hg⟩ (c_M_in l z D ac sa P p2 (0 : Int32) (4 : Int32)) (cx_gs gm_M_72 gt_M_in gn_M gc_M_in) (by decide +kernel) ⟨by decide, by decide⟩ hK hw rfl hl.1 rfl (Nat.le_of_ble_eq_true rfl) dd_M_testAt_18 ⟨by decide, by decide⟩) hw (fun v9 P9 H locs hp hw => ?_)
    obtain ⟨rfl, e9⟩ := hp
    rw [e9] at hw
    clear e9 P9
    refine W.eq (g2 := F0 m 21 ls [.int (su_in p2 (0 : Int32) (4 : Int32)), .ref h0]) rfl ?_
    refine W.eq (g2 := F0 m 21 ls [.int (0 : Int32), .ref h0]) (by rw [show (su_in p2 (0 : Int32) (4 : Int32)) = (0 : Int32) from hB]) ?_
    refine lv_if_eq (tgt := 28) hx hb dd_M_testAt_21 (by decide) (fun c34 => ?_) (fun c34 => absurd (by decide) c34)
    refine lv_iconst (v := 0) hx hb dd_M_testAt_28 (by decide) ?_
    refine lv_iconst (v := 1) hx hb dd_M_testAt_29 (by decide) ?_
    refine lv_iconst (v := 1) hx hb dd_M_testAt_30 (by decide) ?_
    refine lv_iconst (v := 1) hx hb dd_M_testAt_31 (by decide) ?_
    refine cx_after (cx_rV (n := 4) (As := [.int (0 : Int32), .int (1 : Int32), .int (1 : Int32), .int (1 : Int32)]) (rest := []) ⟨hx, hb, hml, hown, hg⟩ (c_M_goes l z D ac sa P h0 ma mv th (nI n) al (nI t) so (0 : Int32) (1 : Int32) (1 : Int32) (1 : Int32) mw) (cx_gv gm_M_83 gi_M_goes gs_M_goes gn_M gc_M_goes) (by decide +kernel) ⟨by decide, by decide⟩ hK hw mw.1 rfl rfl hl.1 rfl (Nat.le_of_ble_eq_true rfl) dd_M_testAt_32 ⟨by decide, by decide⟩) hw (fun v9 P9 H locs hp hw => ?_)
    obtain ⟨rfl, e9⟩ := hp
    rw [e9] at hw
    clear e9 P9
    refine W.eq (g2 := F0 m 35 ls [.int (if (su_gs (0 : Int32) (1 : Int32) (1 : Int32) (1 : Int32)) = 0 then 1 else 0)]) rfl ?_
    obtain ⟨P35, eP35⟩ : ∃ pmv : pm_T, pmv = pm_up P h0 (md_o ma (su_gs (0 : Int32) (1 : Int32) (1 : Int32) (1 : Int32)) (nI n) al (nI t) so) := ⟨_, rfl⟩
    have hw : pm_W z D cl_w (pm_up P h0 (md_o ma (su_gs (0 : Int32) (1 : Int32) (1 : Int32) (1 : Int32)) (nI n) al (nI t) so)) s.heap H _ := hw
    rw [← eP35] at hw
    have mwP35 : md_W P35 ac h0 ma mv (su_gs (0 : Int32) (1 : Int32) (1 : Int32) (1 : Int32)) (nI n) al (nI t) so := by rw [eP35]; exact md_W.obj mw
    have mfP35 : md_F P P35 h0 ma := by rw [eP35]; exact md_F.obj md_F.rf
    refine W.eq (g2 := F0 m 35 ls [.int (0 : Int32)]) (by rw [show (if (su_gs (0 : Int32) (1 : Int32) (1 : Int32) (1 : Int32)) = 0 then 1 else 0) = (0 : Int32) from if_neg (fun h8 => (su_gs0 h8).1 rfl)]) ?_
    refine lv_if_ne (tgt := 40) hx hb dd_M_testAt_35 (by decide) (fun c36 => absurd (by decide) c36) (fun c36 => ?_)
    refine lv_iconst (v := 0) hx hb dd_M_testAt_38 (by decide) ?_
    refine cx_iret (v := (0 : Int32)) hx hb hr rfl hlocks hw dd_M_testAt_39 (by decide) (by decide) ?_
    exact ⟨rfl, by have h7 := mwP35; rw [show (su_gs (0 : Int32) (1 : Int32) (1 : Int32) (1 : Int32)) = 1 from by simp [su_gs]] at h7; exact h7, mfP35⟩

set_option maxHeartbeats 4000000 in
set_option maxRecDepth 100000 in
theorem c_M_testAtC (l : Launch) (z : Nat) (D : va_G) (ac : Nat → ClassId) (sa : Nat → Nat) (P : pm_T) (h0 : Nat) (ma : Nat → Nat) (mv : Nat → Nat → Int32) (th al so : Int32) (n t : Nat) (hn40 : n ≤ 40) (ht100 : t ≤ 100) (i : Nat) (hi : i < t) (p2 : Int32) (hB : ¬ su_in p2 0 4 = 0) (mw : md_W P ac h0 ma mv th (nI n) al (nI t) so)  : cx_M l yy_M_testAt bb_M_testAt 3 (some .int) ({ frames := 3, cells := 0, slots := 0, locals := 90 } : Room) z D ac sa P [.ref h0, .int (nI i), .int p2] (fun v P' => v = some (.int (su_mta mv i p2)) ∧ md_W P' ac h0 ma mv 0 (nI n) al (nI t) so ∧ md_F P P' h0 ma) := by
  refine cx_ofM (by decide) (Nat.le_of_ble_eq_true rfl) (fun p e s m below meth c ls hx hb hr hml hg hown hlocks hin hK hw hl => ?_)
  have hl : lv_has ls 3 [(0, .ref h0), (1, .int (nI i)), (2, .int p2)] := hl
  have hown : s.vm.findClass cn_M = some m.cls := hown
  refine lv_aload_n hx hb dd_M_testAt_0 rfl (lv_at hl 0 rfl) ?_
  refine lv_iload_n hx hb dd_M_testAt_1 rfl (lv_at hl 1 rfl) ?_
  refine lv_iconst (v := 0) hx hb dd_M_testAt_2 (by decide) ?_
  refine lv_aload_n hx hb dd_M_testAt_3 rfl (lv_at hl 0 rfl) ?_
  refine pm_get (ci := 6) (C := cn_M) (T := cf_M) (N := 23) (v := .int (nI t)) hx hb hg gu_M hown hK.2.1 hw mw.1 rfl 13 (by decide) (hg _ gf_M_104) (fun _ h9 => h9) rfl dd_M_testAt_4 ?_
  refine lv_iconst (v := 1) hx hb dd_M_testAt_7 (by decide) ?_
  refine lv_isub hx hb dd_M_testAt_8 ?_
  refine cx_after (cx_rS (n := 3) (As := [.int (nI i), .int (0 : Int32), .int ((nI t) - (1 : Int32))]) (rest := [.ref h0]) ⟨hx, hb, hml, hown, hg⟩ (c_M_in l z D ac sa P (nI i) (0 : Int32) ((nI t) - (1 : Int32))) (cx_gs gm_M_72 gt_M_in gn_M gc_M_in) (by decide +kernel) ⟨by decide, by decide⟩ hK hw rfl hl.1 rfl (Nat.le_of_ble_eq_true rfl) dd_M_testAt_9 ⟨by decide, by decide⟩) hw (fun v9 P9 H locs hp hw => ?_)
  obtain ⟨rfl, e9⟩ := hp
  rw [e9] at hw
  clear e9 P9
  refine W.eq (g2 := F0 m 12 ls [.int (su_in (nI i) (0 : Int32) ((nI t) - (1 : Int32))), .ref h0]) rfl ?_
  refine W.eq (g2 := F0 m 12 ls [.int (1 : Int32), .ref h0]) (by rw [show (su_in (nI i) (0 : Int32) ((nI t) - (1 : Int32))) = (1 : Int32) from su_tin_i hi ht100]) ?_
  refine lv_if_eq (tgt := 28) hx hb dd_M_testAt_12 (by decide) (fun c31 => absurd c31 (by decide)) (fun c31 => ?_)
  refine lv_iload_n hx hb dd_M_testAt_15 rfl (lv_at hl 2 rfl) ?_
  refine lv_iconst (v := 0) hx hb dd_M_testAt_16 (by decide) ?_
  refine lv_iconst (v := 4) hx hb dd_M_testAt_17 (by decide) ?_
  refine cx_after (cx_rS (n := 3) (As := [.int p2, .int (0 : Int32), .int (4 : Int32)]) (rest := [.ref h0]) ⟨hx, hb, hml, hown, hg⟩ (c_M_in l z D ac sa P p2 (0 : Int32) (4 : Int32)) (cx_gs gm_M_72 gt_M_in gn_M gc_M_in) (by decide +kernel) ⟨by decide, by decide⟩ hK hw rfl hl.1 rfl (Nat.le_of_ble_eq_true rfl) dd_M_testAt_18 ⟨by decide, by decide⟩) hw (fun v9 P9 H locs hp hw => ?_)
  obtain ⟨rfl, e9⟩ := hp
  rw [e9] at hw
  clear e9 P9
  refine W.eq (g2 := F0 m 21 ls [.int (su_in p2 (0 : Int32) (4 : Int32)), .ref h0]) rfl ?_
  refine W.eq (g2 := F0 m 21 ls [.int (1 : Int32), .ref h0]) (by rw [show (su_in p2 (0 : Int32) (4 : Int32)) = (1 : Int32) from su_in_z.resolve_left hB]) ?_
  refine lv_if_eq (tgt := 28) hx hb dd_M_testAt_21 (by decide) (fun c32 => absurd c32 (by decide)) (fun c32 => ?_)
  refine lv_iconst (v := 1) hx hb dd_M_testAt_24 (by decide) ?_
  refine lv_goto (tgt := 29) hx hb dd_M_testAt_25 (by decide) ?_
  refine lv_iconst (v := 1) hx hb dd_M_testAt_29 (by decide) ?_
  refine lv_iconst (v := 1) hx hb dd_M_testAt_30 (by decide) ?_
  refine lv_iconst (v := 1) hx hb dd_M_testAt_31 (by decide) ?_
  refine cx_after (cx_rV (n := 4) (As := [.int (1 : Int32), .int (1 : Int32), .int (1 : Int32), .int (1 : Int32)]) (rest := []) ⟨hx, hb, hml, hown, hg⟩ (c_M_goes l z D ac sa P h0 ma mv th (nI n) al (nI t) so (1 : Int32) (1 : Int32) (1 : Int32) (1 : Int32) mw) (cx_gv gm_M_83 gi_M_goes gs_M_goes gn_M gc_M_goes) (by decide +kernel) ⟨by decide, by decide⟩ hK hw mw.1 rfl rfl hl.1 rfl (Nat.le_of_ble_eq_true rfl) dd_M_testAt_32 ⟨by decide, by decide⟩) hw (fun v9 P9 H locs hp hw => ?_)
  obtain ⟨rfl, e9⟩ := hp
  rw [e9] at hw
  clear e9 P9
  refine W.eq (g2 := F0 m 35 ls [.int (if (su_gs (1 : Int32) (1 : Int32) (1 : Int32) (1 : Int32)) = 0 then 1 else 0)]) rfl ?_
  obtain ⟨P33, eP33⟩ : ∃ pmv : pm_T, pmv = pm_up P h0 (md_o ma (su_gs (1 : Int32) (1 : Int32) (1 : Int32) (1 : Int32)) (nI n) al (nI t) so) := ⟨_, rfl⟩
  have hw : pm_W z D cl_w (pm_up P h0 (md_o ma (su_gs (1 : Int32) (1 : Int32) (1 : Int32) (1 : Int32)) (nI n) al (nI t) so)) s.heap H _ := hw
  rw [← eP33] at hw
  have mwP33 : md_W P33 ac h0 ma mv (su_gs (1 : Int32) (1 : Int32) (1 : Int32) (1 : Int32)) (nI n) al (nI t) so := by rw [eP33]; exact md_W.obj mw
  have mfP33 : md_F P P33 h0 ma := by rw [eP33]; exact md_F.obj md_F.rf
  refine W.eq (g2 := F0 m 35 ls [.int (1 : Int32)]) (by rw [show (if (su_gs (1 : Int32) (1 : Int32) (1 : Int32) (1 : Int32)) = 0 then 1 else 0) = (1 : Int32) from by decide]) ?_
  refine lv_if_ne (tgt := 40) hx hb dd_M_testAt_35 (by decide) (fun c34 => ?_) (fun c34 => absurd c34 (by decide))
  refine lv_iload_n hx hb dd_M_testAt_40 rfl (lv_at hl 2 rfl) ?_
  refine lv_if_ne (tgt := 53) hx hb dd_M_testAt_41 (by decide) (fun c35 => ?_) (fun c35 => ?_)
  · skip
    refine lv_iload_n hx hb dd_M_testAt_53 rfl (lv_at hl 2 rfl) ?_
    refine lv_iconst (v := 1) hx hb dd_M_testAt_54 (by decide) ?_
    refine lv_icmp_ne (tgt := 67) hx hb dd_M_testAt_55 (by decide) (fun c36 => ?_) (fun c36 => ?_)
    · skip
      refine lv_iload_n hx hb dd_M_testAt_67 rfl (lv_at hl 2 rfl) ?_
      refine lv_iconst (v := 2) hx hb dd_M_testAt_68 (by decide) ?_
      refine lv_icmp_ne (tgt := 81) hx hb dd_M_testAt_69 (by decide) (fun c37 => ?_) (fun c37 => ?_)
      · skip
        refine lv_iload_n hx hb dd_M_testAt_81 rfl (lv_at hl 2 rfl) ?_
        refine lv_iconst (v := 3) hx hb dd_M_testAt_82 (by decide) ?_
        refine lv_icmp_ne (tgt := 95) hx hb dd_M_testAt_83 (by decide) (fun c38 => ?_) (fun c38 => ?_)
        · skip
          refine lv_aload_n hx hb dd_M_testAt_95 rfl (lv_at hl 0 rfl) ?_
          refine pm_get (ci := 6) (C := cn_M) (T := cf_M) (N := 23) (v := .ref (ma 14)) hx hb hg gu_M hown hK.2.1 hw mwP33.1 rfl 18 (by decide) (hg _ gf_M_53) (fun _ h9 => h9) rfl dd_M_testAt_96 ?_
          refine lv_iload_n hx hb dd_M_testAt_99 rfl (lv_at hl 1 rfl) ?_
          refine pm_iald hx hb hK.2.1 hw 0 (show P33 (ma 14) = some (.inl (ac 0, 100, .inl (mv 14))) from mwP33.2.1 14 (by decide)) rfl (vp_in_nI (by omega) (by decide)) dd_M_testAt_100 ?_
          refine W.eq (g2 := F0 m 101 ls [.int (mv 14 i)]) (by rw [show ((mv 14) ((nI i).toNatClampNeg)) = (mv 14 i) from by rw [nI_clamp (by omega)]]) ?_
          refine cx_iret (v := (mv 14 i)) hx hb hr rfl hlocks hw dd_M_testAt_101 (by decide) (by decide) ?_
          exact ⟨by rw [su_mta, if_neg c35, if_neg c36, if_neg c37, if_neg c38], mwP33, mfP33⟩
        · skip
          refine lv_aload_n hx hb dd_M_testAt_86 rfl (lv_at hl 0 rfl) ?_
          refine pm_get (ci := 6) (C := cn_M) (T := cf_M) (N := 23) (v := .ref (ma 13)) hx hb hg gu_M hown hK.2.1 hw mwP33.1 rfl 17 (by decide) (hg _ gf_M_50) (fun _ h9 => h9) rfl dd_M_testAt_87 ?_
          refine lv_iload_n hx hb dd_M_testAt_90 rfl (lv_at hl 1 rfl) ?_
          refine pm_iald hx hb hK.2.1 hw 0 (show P33 (ma 13) = some (.inl (ac 0, 100, .inl (mv 13))) from mwP33.2.1 13 (by decide)) rfl (vp_in_nI (by omega) (by decide)) dd_M_testAt_91 ?_
          refine W.eq (g2 := F0 m 92 ls [.int (mv 13 i)]) (by rw [show ((mv 13) ((nI i).toNatClampNeg)) = (mv 13 i) from by rw [nI_clamp (by omega)]]) ?_
          refine lv_goto (tgt := 101) hx hb dd_M_testAt_92 (by decide) ?_
          refine cx_iret (v := (mv 13 i)) hx hb hr rfl hlocks hw dd_M_testAt_101 (by decide) (by decide) ?_
          exact ⟨by rw [su_mta, if_neg c35, if_neg c36, if_neg c37, if_pos c38], mwP33, mfP33⟩
      · skip
        refine lv_aload_n hx hb dd_M_testAt_72 rfl (lv_at hl 0 rfl) ?_
        refine pm_get (ci := 6) (C := cn_M) (T := cf_M) (N := 23) (v := .ref (ma 12)) hx hb hg gu_M hown hK.2.1 hw mwP33.1 rfl 16 (by decide) (hg _ gf_M_47) (fun _ h9 => h9) rfl dd_M_testAt_73 ?_
        refine lv_iload_n hx hb dd_M_testAt_76 rfl (lv_at hl 1 rfl) ?_
        refine pm_iald hx hb hK.2.1 hw 0 (show P33 (ma 12) = some (.inl (ac 0, 100, .inl (mv 12))) from mwP33.2.1 12 (by decide)) rfl (vp_in_nI (by omega) (by decide)) dd_M_testAt_77 ?_
        refine W.eq (g2 := F0 m 78 ls [.int (mv 12 i)]) (by rw [show ((mv 12) ((nI i).toNatClampNeg)) = (mv 12 i) from by rw [nI_clamp (by omega)]]) ?_
        refine lv_goto (tgt := 101) hx hb dd_M_testAt_78 (by decide) ?_
        refine cx_iret (v := (mv 12 i)) hx hb hr rfl hlocks hw dd_M_testAt_101 (by decide) (by decide) ?_
        exact ⟨by rw [su_mta, if_neg c35, if_neg c36, if_pos c37], mwP33, mfP33⟩
    · skip
      refine lv_aload_n hx hb dd_M_testAt_58 rfl (lv_at hl 0 rfl) ?_
      refine pm_get (ci := 6) (C := cn_M) (T := cf_M) (N := 23) (v := .ref (ma 11)) hx hb hg gu_M hown hK.2.1 hw mwP33.1 rfl 15 (by decide) (hg _ gf_M_44) (fun _ h9 => h9) rfl dd_M_testAt_59 ?_
      refine lv_iload_n hx hb dd_M_testAt_62 rfl (lv_at hl 1 rfl) ?_
      refine pm_iald hx hb hK.2.1 hw 0 (show P33 (ma 11) = some (.inl (ac 0, 100, .inl (mv 11))) from mwP33.2.1 11 (by decide)) rfl (vp_in_nI (by omega) (by decide)) dd_M_testAt_63 ?_
      refine W.eq (g2 := F0 m 64 ls [.int (mv 11 i)]) (by rw [show ((mv 11) ((nI i).toNatClampNeg)) = (mv 11 i) from by rw [nI_clamp (by omega)]]) ?_
      refine lv_goto (tgt := 101) hx hb dd_M_testAt_64 (by decide) ?_
      refine cx_iret (v := (mv 11 i)) hx hb hr rfl hlocks hw dd_M_testAt_101 (by decide) (by decide) ?_
      exact ⟨by rw [su_mta, if_neg c35, if_pos c36], mwP33, mfP33⟩
  · skip
    refine lv_aload_n hx hb dd_M_testAt_44 rfl (lv_at hl 0 rfl) ?_
    refine pm_get (ci := 6) (C := cn_M) (T := cf_M) (N := 23) (v := .ref (ma 10)) hx hb hg gu_M hown hK.2.1 hw mwP33.1 rfl 14 (by decide) (hg _ gf_M_41) (fun _ h9 => h9) rfl dd_M_testAt_45 ?_
    refine lv_iload_n hx hb dd_M_testAt_48 rfl (lv_at hl 1 rfl) ?_
    refine pm_iald hx hb hK.2.1 hw 0 (show P33 (ma 10) = some (.inl (ac 0, 100, .inl (mv 10))) from mwP33.2.1 10 (by decide)) rfl (vp_in_nI (by omega) (by decide)) dd_M_testAt_49 ?_
    refine W.eq (g2 := F0 m 50 ls [.int (mv 10 i)]) (by rw [show ((mv 10) ((nI i).toNatClampNeg)) = (mv 10 i) from by rw [nI_clamp (by omega)]]) ?_
    refine lv_goto (tgt := 101) hx hb dd_M_testAt_50 (by decide) ?_
    refine cx_iret (v := (mv 10 i)) hx hb hr rfl hlocks hw dd_M_testAt_101 (by decide) (by decide) ?_
    exact ⟨by rw [su_mta, if_pos c35], mwP33, mfP33⟩

set_option maxHeartbeats 4000000 in
set_option maxRecDepth 100000 in
theorem c_M_stopA (l : Launch) (z : Nat) (D : va_G) (ac : Nat → ClassId) (sa : Nat → Nat) (P : pm_T) (h0 : Nat) (ma : Nat → Nat) (mv : Nat → Nat → Int32) (th al so : Int32) (n t : Nat) (hn40 : n ≤ 40) (ht100 : t ≤ 100) (p1 : Int32) (hA : p1 < 0) (mw : md_W P ac h0 ma mv th (nI n) al (nI t) so)  : cx_M l yy_M_stop bb_M_stop 2 (some .int) ({ frames := 3, cells := 0, slots := 0, locals := 90 } : Room) z D ac sa P [.ref h0, .int p1] (fun v P' => v = some (.int 0) ∧ md_W P' ac h0 ma mv 1 (nI n) al (nI t) so ∧ md_F P P' h0 ma) := by
  refine cx_ofM (by decide) (Nat.le_of_ble_eq_true rfl) (fun p e s m below meth c ls hx hb hr hml hg hown hlocks hin hK hw hl => ?_)
  have hl : lv_has ls 2 [(0, .ref h0), (1, .int p1)] := hl
  have hown : s.vm.findClass cn_M = some m.cls := hown
  refine lv_aload_n hx hb dd_M_stop_0 rfl (lv_at hl 0 rfl) ?_
  refine lv_iload_n hx hb dd_M_stop_1 rfl (lv_at hl 1 rfl) ?_
  refine lv_if_lt (tgt := 9) hx hb dd_M_stop_2 (by decide) (fun c31 => ?_) (fun c31 => absurd hA c31)
  refine lv_iconst (v := 0) hx hb dd_M_stop_9 (by decide) ?_
  refine lv_iconst (v := 1) hx hb dd_M_stop_10 (by decide) ?_
  refine lv_iconst (v := 1) hx hb dd_M_stop_11 (by decide) ?_
  refine lv_iconst (v := 1) hx hb dd_M_stop_12 (by decide) ?_
  refine cx_after (cx_rV (n := 4) (As := [.int (0 : Int32), .int (1 : Int32), .int (1 : Int32), .int (1 : Int32)]) (rest := []) ⟨hx, hb, hml, hown, hg⟩ (c_M_goes l z D ac sa P h0 ma mv th (nI n) al (nI t) so (0 : Int32) (1 : Int32) (1 : Int32) (1 : Int32) mw) (cx_gv gm_M_83 gi_M_goes gs_M_goes gn_M gc_M_goes) (by decide +kernel) ⟨by decide, by decide⟩ hK hw mw.1 rfl rfl hl.1 rfl (Nat.le_of_ble_eq_true rfl) dd_M_stop_13 ⟨by decide, by decide⟩) hw (fun v9 P9 H locs hp hw => ?_)
  obtain ⟨rfl, e9⟩ := hp
  rw [e9] at hw
  clear e9 P9
  refine W.eq (g2 := F0 m 16 ls [.int (if (su_gs (0 : Int32) (1 : Int32) (1 : Int32) (1 : Int32)) = 0 then 1 else 0)]) rfl ?_
  obtain ⟨P32, eP32⟩ : ∃ pmv : pm_T, pmv = pm_up P h0 (md_o ma (su_gs (0 : Int32) (1 : Int32) (1 : Int32) (1 : Int32)) (nI n) al (nI t) so) := ⟨_, rfl⟩
  have hw : pm_W z D cl_w (pm_up P h0 (md_o ma (su_gs (0 : Int32) (1 : Int32) (1 : Int32) (1 : Int32)) (nI n) al (nI t) so)) s.heap H _ := hw
  rw [← eP32] at hw
  have mwP32 : md_W P32 ac h0 ma mv (su_gs (0 : Int32) (1 : Int32) (1 : Int32) (1 : Int32)) (nI n) al (nI t) so := by rw [eP32]; exact md_W.obj mw
  have mfP32 : md_F P P32 h0 ma := by rw [eP32]; exact md_F.obj md_F.rf
  refine W.eq (g2 := F0 m 16 ls [.int (0 : Int32)]) (by rw [show (if (su_gs (0 : Int32) (1 : Int32) (1 : Int32) (1 : Int32)) = 0 then 1 else 0) = (0 : Int32) from if_neg (fun h8 => (su_gs0 h8).1 rfl)]) ?_
  refine lv_if_ne (tgt := 21) hx hb dd_M_stop_16 (by decide) (fun c33 => absurd (by decide) c33) (fun c33 => ?_)
  refine lv_iconst (v := 0) hx hb dd_M_stop_19 (by decide) ?_
  refine cx_iret (v := (0 : Int32)) hx hb hr rfl hlocks hw dd_M_stop_20 (by decide) (by decide) ?_
  exact ⟨rfl, by have h7 := mwP32; rw [show (su_gs (0 : Int32) (1 : Int32) (1 : Int32) (1 : Int32)) = 1 from by simp [su_gs]] at h7; exact h7, mfP32⟩

set_option maxHeartbeats 4000000 in
set_option maxRecDepth 100000 in
theorem c_M_stopC (l : Launch) (z : Nat) (D : va_G) (ac : Nat → ClassId) (sa : Nat → Nat) (P : pm_T) (h0 : Nat) (ma : Nat → Nat) (mv : Nat → Nat → Int32) (th al so : Int32) (n t : Nat) (hn40 : n ≤ 40) (ht100 : t ≤ 100) (p1 : Int32) (hA : ¬ p1 < 0) (hso : so ≤ 6) (mw : md_W P ac h0 ma mv th (nI n) al (nI t) so)  : cx_M l yy_M_stop bb_M_stop 2 (some .int) ({ frames := 3, cells := 0, slots := 0, locals := 90 } : Room) z D ac sa P [.ref h0, .int p1] (fun v P' => v = some (.int (if so ≤ p1 then -1 else mv 17 p1.toNatClampNeg)) ∧ md_W P' ac h0 ma mv 0 (nI n) al (nI t) so ∧ md_F P P' h0 ma) := by
  refine cx_ofM (by decide) (Nat.le_of_ble_eq_true rfl) (fun p e s m below meth c ls hx hb hr hml hg hown hlocks hin hK hw hl => ?_)
  have hl : lv_has ls 2 [(0, .ref h0), (1, .int p1)] := hl
  have hown : s.vm.findClass cn_M = some m.cls := hown
  refine lv_aload_n hx hb dd_M_stop_0 rfl (lv_at hl 0 rfl) ?_
  refine lv_iload_n hx hb dd_M_stop_1 rfl (lv_at hl 1 rfl) ?_
  refine lv_if_lt (tgt := 9) hx hb dd_M_stop_2 (by decide) (fun c31 => absurd c31 hA) (fun c31 => ?_)
  refine lv_iconst (v := 1) hx hb dd_M_stop_5 (by decide) ?_
  refine lv_goto (tgt := 10) hx hb dd_M_stop_6 (by decide) ?_
  refine lv_iconst (v := 1) hx hb dd_M_stop_10 (by decide) ?_
  refine lv_iconst (v := 1) hx hb dd_M_stop_11 (by decide) ?_
  refine lv_iconst (v := 1) hx hb dd_M_stop_12 (by decide) ?_
  refine cx_after (cx_rV (n := 4) (As := [.int (1 : Int32), .int (1 : Int32), .int (1 : Int32), .int (1 : Int32)]) (rest := []) ⟨hx, hb, hml, hown, hg⟩ (c_M_goes l z D ac sa P h0 ma mv th (nI n) al (nI t) so (1 : Int32) (1 : Int32) (1 : Int32) (1 : Int32) mw) (cx_gv gm_M_83 gi_M_goes gs_M_goes gn_M gc_M_goes) (by decide +kernel) ⟨by decide, by decide⟩ hK hw mw.1 rfl rfl hl.1 rfl (Nat.le_of_ble_eq_true rfl) dd_M_stop_13 ⟨by decide, by decide⟩) hw (fun v9 P9 H locs hp hw => ?_)
  obtain ⟨rfl, e9⟩ := hp
  rw [e9] at hw
  clear e9 P9
  refine W.eq (g2 := F0 m 16 ls [.int (if (su_gs (1 : Int32) (1 : Int32) (1 : Int32) (1 : Int32)) = 0 then 1 else 0)]) rfl ?_
  obtain ⟨P32, eP32⟩ : ∃ pmv : pm_T, pmv = pm_up P h0 (md_o ma (su_gs (1 : Int32) (1 : Int32) (1 : Int32) (1 : Int32)) (nI n) al (nI t) so) := ⟨_, rfl⟩
  have hw : pm_W z D cl_w (pm_up P h0 (md_o ma (su_gs (1 : Int32) (1 : Int32) (1 : Int32) (1 : Int32)) (nI n) al (nI t) so)) s.heap H _ := hw
  rw [← eP32] at hw
  have mwP32 : md_W P32 ac h0 ma mv (su_gs (1 : Int32) (1 : Int32) (1 : Int32) (1 : Int32)) (nI n) al (nI t) so := by rw [eP32]; exact md_W.obj mw
  have mfP32 : md_F P P32 h0 ma := by rw [eP32]; exact md_F.obj md_F.rf
  refine W.eq (g2 := F0 m 16 ls [.int (1 : Int32)]) (by rw [show (if (su_gs (1 : Int32) (1 : Int32) (1 : Int32) (1 : Int32)) = 0 then 1 else 0) = (1 : Int32) from by decide]) ?_
  refine lv_if_ne (tgt := 21) hx hb dd_M_stop_16 (by decide) (fun c33 => ?_) (fun c33 => absurd c33 (by decide))
  refine lv_iload_n hx hb dd_M_stop_21 rfl (lv_at hl 1 rfl) ?_
  refine lv_aload_n hx hb dd_M_stop_22 rfl (lv_at hl 0 rfl) ?_
  refine pm_get (ci := 6) (C := cn_M) (T := cf_M) (N := 23) (v := .int so) hx hb hg gu_M hown hK.2.1 hw mwP32.1 rfl 19 (by decide) (hg _ gf_M_135) (fun _ h9 => h9) rfl dd_M_stop_23 ?_
  refine lv_icmp_ge (tgt := 38) hx hb dd_M_stop_26 (by decide) (fun c34 => ?_) (fun c34 => ?_)
  · skip
    refine lv_iconst (v := (-1)) hx hb dd_M_stop_38 (by decide) ?_
    refine cx_iret (v := (-1 : Int32)) hx hb hr rfl hlocks hw dd_M_stop_39 (by decide) (by decide) ?_
    exact ⟨by rw [if_pos c34], mwP32, mfP32⟩
  · skip
    refine lv_aload_n hx hb dd_M_stop_29 rfl (lv_at hl 0 rfl) ?_
    refine pm_get (ci := 6) (C := cn_M) (T := cf_M) (N := 23) (v := .ref (ma 17)) hx hb hg gu_M hown hK.2.1 hw mwP32.1 rfl 22 (by decide) (hg _ gf_M_62) (fun _ h9 => h9) rfl dd_M_stop_30 ?_
    refine lv_iload_n hx hb dd_M_stop_33 rfl (lv_at hl 1 rfl) ?_
    refine pm_iald hx hb hK.2.1 hw 0 (show P32 (ma 17) = some (.inl (ac 0, 6, .inl (mv 17))) from mwP32.2.1 17 (by decide)) rfl (vp_in_lg (n := 6) (by decide) hA (Int32.lt_of_lt_of_le (Int32.not_le.mp c34) hso)) dd_M_stop_34 ?_
    refine lv_goto (tgt := 39) hx hb dd_M_stop_35 (by decide) ?_
    refine cx_iret (v := ((mv 17) p1.toNatClampNeg)) hx hb hr rfl hlocks hw dd_M_stop_39 (by decide) (by decide) ?_
    exact ⟨by rw [if_neg c34], mwP32, mfP32⟩

set_option maxHeartbeats 4000000 in
set_option maxRecDepth 100000 in
theorem c_M_hydrantAtA (l : Launch) (z : Nat) (D : va_G) (ac : Nat → ClassId) (sa : Nat → Nat) (P : pm_T) (h0 : Nat) (ma : Nat → Nat) (mv : Nat → Nat → Int32) (th al so : Int32) (n t : Nat) (hn40 : n ≤ 40) (ht100 : t ≤ 100) (p1 p2 : Int32) (hA : su_in p1 0 (nI n - 1) = 0) (mw : md_W P ac h0 ma mv th (nI n) al (nI t) so)  : cx_M l yy_M_hydrantAt bb_M_hydrantAt 5 (some .int) ({ frames := 3, cells := 0, slots := 0, locals := 90 } : Room) z D ac sa P [.ref h0, .int p1, .int p2] (fun v P' => v = some (.int 0) ∧ md_W P' ac h0 ma mv 1 (nI n) al (nI t) so ∧ md_F P P' h0 ma) := by
  refine cx_ofM (by decide) (Nat.le_of_ble_eq_true rfl) (fun p e s m below meth c ls hx hb hr hml hg hown hlocks hin hK hw hl => ?_)
  have hl : lv_has ls 5 [(0, .ref h0), (1, .int p1), (2, .int p2)] := hl
  have hown : s.vm.findClass cn_M = some m.cls := hown
  refine lv_aload_n hx hb dd_M_hydrantAt_0 rfl (lv_at hl 0 rfl) ?_
  refine lv_aload_n hx hb dd_M_hydrantAt_1 rfl (lv_at hl 0 rfl) ?_
  refine lv_iload_n hx hb dd_M_hydrantAt_2 rfl (lv_at hl 1 rfl) ?_
  refine cx_after (cx_rV (n := 1) (As := [.int p1]) (rest := [.ref h0]) ⟨hx, hb, hml, hown, hg⟩ (c_M_isHydrant l z D ac sa P h0 ma mv th (nI n) al (nI t) so p1 mw) (cx_gv gm_M_95 gi_M_isHydrant gs_M_isHydrant gn_M gc_M_isHydrant) (by decide +kernel) ⟨by decide, by decide⟩ hK hw mw.1 rfl rfl hl.1 rfl (Nat.le_of_ble_eq_true rfl) dd_M_hydrantAt_3 ⟨by decide, by decide⟩) hw (fun v9 P9 H locs hp hw => ?_)
  obtain ⟨rfl, e9⟩ := hp
  rw [e9] at hw
  clear e9 P9
  refine W.eq (g2 := F0 m 6 ls [.int (su_in p1 0 ((nI n) - 1)), .ref h0]) rfl ?_
  refine W.eq (g2 := F0 m 6 ls [.int (0 : Int32), .ref h0]) (by rw [show (su_in p1 0 ((nI n) - 1)) = (0 : Int32) from hA]) ?_
  refine lv_if_eq (tgt := 22) hx hb dd_M_hydrantAt_6 (by decide) (fun c31 => ?_) (fun c31 => absurd (by decide) c31)
  refine lv_iconst (v := 0) hx hb dd_M_hydrantAt_22 (by decide) ?_
  refine lv_iconst (v := 1) hx hb dd_M_hydrantAt_23 (by decide) ?_
  refine lv_iconst (v := 1) hx hb dd_M_hydrantAt_24 (by decide) ?_
  refine lv_iconst (v := 1) hx hb dd_M_hydrantAt_25 (by decide) ?_
  refine cx_after (cx_rV (n := 4) (As := [.int (0 : Int32), .int (1 : Int32), .int (1 : Int32), .int (1 : Int32)]) (rest := []) ⟨hx, hb, hml, hown, hg⟩ (c_M_goes l z D ac sa P h0 ma mv th (nI n) al (nI t) so (0 : Int32) (1 : Int32) (1 : Int32) (1 : Int32) mw) (cx_gv gm_M_83 gi_M_goes gs_M_goes gn_M gc_M_goes) (by decide +kernel) ⟨by decide, by decide⟩ hK hw mw.1 rfl rfl hl.1 rfl (Nat.le_of_ble_eq_true rfl) dd_M_hydrantAt_26 ⟨by decide, by decide⟩) hw (fun v9 P9 H locs hp hw => ?_)
  obtain ⟨rfl, e9⟩ := hp
  rw [e9] at hw
  clear e9 P9
  refine W.eq (g2 := F0 m 29 ls [.int (if (su_gs (0 : Int32) (1 : Int32) (1 : Int32) (1 : Int32)) = 0 then 1 else 0)]) rfl ?_
  obtain ⟨P32, eP32⟩ : ∃ pmv : pm_T, pmv = pm_up P h0 (md_o ma (su_gs (0 : Int32) (1 : Int32) (1 : Int32) (1 : Int32)) (nI n) al (nI t) so) := ⟨_, rfl⟩
  have hw : pm_W z D cl_w (pm_up P h0 (md_o ma (su_gs (0 : Int32) (1 : Int32) (1 : Int32) (1 : Int32)) (nI n) al (nI t) so)) s.heap H _ := hw
  rw [← eP32] at hw
  have mwP32 : md_W P32 ac h0 ma mv (su_gs (0 : Int32) (1 : Int32) (1 : Int32) (1 : Int32)) (nI n) al (nI t) so := by rw [eP32]; exact md_W.obj mw
  have mfP32 : md_F P P32 h0 ma := by rw [eP32]; exact md_F.obj md_F.rf
  refine W.eq (g2 := F0 m 29 ls [.int (0 : Int32)]) (by rw [show (if (su_gs (0 : Int32) (1 : Int32) (1 : Int32) (1 : Int32)) = 0 then 1 else 0) = (0 : Int32) from if_neg (fun h8 => (su_gs0 h8).1 rfl)]) ?_
  refine lv_if_ne (tgt := 34) hx hb dd_M_hydrantAt_29 (by decide) (fun c33 => absurd (by decide) c33) (fun c33 => ?_)
  refine lv_iconst (v := 0) hx hb dd_M_hydrantAt_32 (by decide) ?_
  refine cx_iret (v := (0 : Int32)) hx hb hr rfl hlocks hw dd_M_hydrantAt_33 (by decide) (by decide) ?_
  exact ⟨rfl, by have h7 := mwP32; rw [show (su_gs (0 : Int32) (1 : Int32) (1 : Int32) (1 : Int32)) = 1 from by simp [su_gs]] at h7; exact h7, mfP32⟩

set_option maxHeartbeats 4000000 in
set_option maxRecDepth 100000 in
theorem c_M_hydrantAtB (l : Launch) (z : Nat) (D : va_G) (ac : Nat → ClassId) (sa : Nat → Nat) (P : pm_T) (h0 : Nat) (ma : Nat → Nat) (mv : Nat → Nat → Int32) (th al so : Int32) (n t : Nat) (hn40 : n ≤ 40) (ht100 : t ≤ 100) (j : Nat) (hj : j < n) (p2 : Int32) (hB : su_in p2 0 5 = 0) (mw : md_W P ac h0 ma mv th (nI n) al (nI t) so)  : cx_M l yy_M_hydrantAt bb_M_hydrantAt 5 (some .int) ({ frames := 3, cells := 0, slots := 0, locals := 90 } : Room) z D ac sa P [.ref h0, .int (nI j), .int p2] (fun v P' => v = some (.int 0) ∧ md_W P' ac h0 ma mv 1 (nI n) al (nI t) so ∧ md_F P P' h0 ma) := by
  refine cx_ofM (by decide) (Nat.le_of_ble_eq_true rfl) (fun p e s m below meth c ls hx hb hr hml hg hown hlocks hin hK hw hl => ?_)
  have hl : lv_has ls 5 [(0, .ref h0), (1, .int (nI j)), (2, .int p2)] := hl
  have hown : s.vm.findClass cn_M = some m.cls := hown
  refine lv_aload_n hx hb dd_M_hydrantAt_0 rfl (lv_at hl 0 rfl) ?_
  refine lv_aload_n hx hb dd_M_hydrantAt_1 rfl (lv_at hl 0 rfl) ?_
  refine lv_iload_n hx hb dd_M_hydrantAt_2 rfl (lv_at hl 1 rfl) ?_
  refine cx_after (cx_rV (n := 1) (As := [.int (nI j)]) (rest := [.ref h0]) ⟨hx, hb, hml, hown, hg⟩ (c_M_isHydrant l z D ac sa P h0 ma mv th (nI n) al (nI t) so (nI j) mw) (cx_gv gm_M_95 gi_M_isHydrant gs_M_isHydrant gn_M gc_M_isHydrant) (by decide +kernel) ⟨by decide, by decide⟩ hK hw mw.1 rfl rfl hl.1 rfl (Nat.le_of_ble_eq_true rfl) dd_M_hydrantAt_3 ⟨by decide, by decide⟩) hw (fun v9 P9 H locs hp hw => ?_)
  obtain ⟨rfl, e9⟩ := hp
  rw [e9] at hw
  clear e9 P9
  refine W.eq (g2 := F0 m 6 ls [.int (su_in (nI j) 0 ((nI n) - 1)), .ref h0]) rfl ?_
  refine W.eq (g2 := F0 m 6 ls [.int (1 : Int32), .ref h0]) (by rw [show (su_in (nI j) 0 ((nI n) - 1)) = (1 : Int32) from su_hin_i hj (by omega)]) ?_
  refine lv_if_eq (tgt := 22) hx hb dd_M_hydrantAt_6 (by decide) (fun c31 => absurd c31 (by decide)) (fun c31 => ?_)
  refine lv_iload_n hx hb dd_M_hydrantAt_9 rfl (lv_at hl 2 rfl) ?_
  refine lv_iconst (v := 0) hx hb dd_M_hydrantAt_10 (by decide) ?_
  refine lv_iconst (v := 5) hx hb dd_M_hydrantAt_11 (by decide) ?_
  refine cx_after (cx_rS (n := 3) (As := [.int p2, .int (0 : Int32), .int (5 : Int32)]) (rest := [.ref h0]) ⟨hx, hb, hml, hown, hg⟩ (c_M_in l z D ac sa P p2 (0 : Int32) (5 : Int32)) (cx_gs gm_M_72 gt_M_in gn_M gc_M_in) (by decide +kernel) ⟨by decide, by decide⟩ hK hw rfl hl.1 rfl (Nat.le_of_ble_eq_true rfl) dd_M_hydrantAt_12 ⟨by decide, by decide⟩) hw (fun v9 P9 H locs hp hw => ?_)
  obtain ⟨rfl, e9⟩ := hp
  rw [e9] at hw
  clear e9 P9
  refine W.eq (g2 := F0 m 15 ls [.int (su_in p2 (0 : Int32) (5 : Int32)), .ref h0]) rfl ?_
  refine W.eq (g2 := F0 m 15 ls [.int (0 : Int32), .ref h0]) (by rw [show (su_in p2 (0 : Int32) (5 : Int32)) = (0 : Int32) from hB]) ?_
  refine lv_if_eq (tgt := 22) hx hb dd_M_hydrantAt_15 (by decide) (fun c32 => ?_) (fun c32 => absurd (by decide) c32)
  refine lv_iconst (v := 0) hx hb dd_M_hydrantAt_22 (by decide) ?_
  refine lv_iconst (v := 1) hx hb dd_M_hydrantAt_23 (by decide) ?_
  refine lv_iconst (v := 1) hx hb dd_M_hydrantAt_24 (by decide) ?_
  refine lv_iconst (v := 1) hx hb dd_M_hydrantAt_25 (by decide) ?_
  refine cx_after (cx_rV (n := 4) (As := [.int (0 : Int32), .int (1 : Int32), .int (1 : Int32), .int (1 : Int32)]) (rest := []) ⟨hx, hb, hml, hown, hg⟩ (c_M_goes l z D ac sa P h0 ma mv th (nI n) al (nI t) so (0 : Int32) (1 : Int32) (1 : Int32) (1 : Int32) mw) (cx_gv gm_M_83 gi_M_goes gs_M_goes gn_M gc_M_goes) (by decide +kernel) ⟨by decide, by decide⟩ hK hw mw.1 rfl rfl hl.1 rfl (Nat.le_of_ble_eq_true rfl) dd_M_hydrantAt_26 ⟨by decide, by decide⟩) hw (fun v9 P9 H locs hp hw => ?_)
  obtain ⟨rfl, e9⟩ := hp
  rw [e9] at hw
  clear e9 P9
  refine W.eq (g2 := F0 m 29 ls [.int (if (su_gs (0 : Int32) (1 : Int32) (1 : Int32) (1 : Int32)) = 0 then 1 else 0)]) rfl ?_
  obtain ⟨P33, eP33⟩ : ∃ pmv : pm_T, pmv = pm_up P h0 (md_o ma (su_gs (0 : Int32) (1 : Int32) (1 : Int32) (1 : Int32)) (nI n) al (nI t) so) := ⟨_, rfl⟩
  have hw : pm_W z D cl_w (pm_up P h0 (md_o ma (su_gs (0 : Int32) (1 : Int32) (1 : Int32) (1 : Int32)) (nI n) al (nI t) so)) s.heap H _ := hw
  rw [← eP33] at hw
  have mwP33 : md_W P33 ac h0 ma mv (su_gs (0 : Int32) (1 : Int32) (1 : Int32) (1 : Int32)) (nI n) al (nI t) so := by rw [eP33]; exact md_W.obj mw
  have mfP33 : md_F P P33 h0 ma := by rw [eP33]; exact md_F.obj md_F.rf
  refine W.eq (g2 := F0 m 29 ls [.int (0 : Int32)]) (by rw [show (if (su_gs (0 : Int32) (1 : Int32) (1 : Int32) (1 : Int32)) = 0 then 1 else 0) = (0 : Int32) from if_neg (fun h8 => (su_gs0 h8).1 rfl)]) ?_
  refine lv_if_ne (tgt := 34) hx hb dd_M_hydrantAt_29 (by decide) (fun c34 => absurd (by decide) c34) (fun c34 => ?_)
  refine lv_iconst (v := 0) hx hb dd_M_hydrantAt_32 (by decide) ?_
  refine cx_iret (v := (0 : Int32)) hx hb hr rfl hlocks hw dd_M_hydrantAt_33 (by decide) (by decide) ?_
  exact ⟨rfl, by have h7 := mwP33; rw [show (su_gs (0 : Int32) (1 : Int32) (1 : Int32) (1 : Int32)) = 1 from by simp [su_gs]] at h7; exact h7, mfP33⟩

set_option maxHeartbeats 4000000 in
set_option maxRecDepth 100000 in
theorem c_M_hydrantAtC (l : Launch) (z : Nat) (D : va_G) (ac : Nat → ClassId) (sa : Nat → Nat) (P : pm_T) (h0 : Nat) (ma : Nat → Nat) (mv : Nat → Nat → Int32) (th al so : Int32) (n t : Nat) (hn40 : n ≤ 40) (ht100 : t ≤ 100) (j : Nat) (hj : j < n) (p2 : Int32) (hB : ¬ su_in p2 0 5 = 0) (mw : md_W P ac h0 ma mv th (nI n) al (nI t) so)  : cx_M l yy_M_hydrantAt bb_M_hydrantAt 5 (some .int) ({ frames := 3, cells := 0, slots := 0, locals := 90 } : Room) z D ac sa P [.ref h0, .int (nI j), .int p2] (fun v P' => v = some (.int (su_mha mv t j p2)) ∧ md_W P' ac h0 ma mv 0 (nI n) al (nI t) so ∧ md_F P P' h0 ma) := by
  refine cx_ofM (by decide) (Nat.le_of_ble_eq_true rfl) (fun p e s m below meth c ls hx hb hr hml hg hown hlocks hin hK hw hl => ?_)
  have hl : lv_has ls 5 [(0, .ref h0), (1, .int (nI j)), (2, .int p2)] := hl
  have hown : s.vm.findClass cn_M = some m.cls := hown
  refine lv_aload_n hx hb dd_M_hydrantAt_0 rfl (lv_at hl 0 rfl) ?_
  refine lv_aload_n hx hb dd_M_hydrantAt_1 rfl (lv_at hl 0 rfl) ?_
  refine lv_iload_n hx hb dd_M_hydrantAt_2 rfl (lv_at hl 1 rfl) ?_
  refine cx_after (cx_rV (n := 1) (As := [.int (nI j)]) (rest := [.ref h0]) ⟨hx, hb, hml, hown, hg⟩ (c_M_isHydrant l z D ac sa P h0 ma mv th (nI n) al (nI t) so (nI j) mw) (cx_gv gm_M_95 gi_M_isHydrant gs_M_isHydrant gn_M gc_M_isHydrant) (by decide +kernel) ⟨by decide, by decide⟩ hK hw mw.1 rfl rfl hl.1 rfl (Nat.le_of_ble_eq_true rfl) dd_M_hydrantAt_3 ⟨by decide, by decide⟩) hw (fun v9 P9 H locs hp hw => ?_)
  obtain ⟨rfl, e9⟩ := hp
  rw [e9] at hw
  clear e9 P9
  refine W.eq (g2 := F0 m 6 ls [.int (su_in (nI j) 0 ((nI n) - 1)), .ref h0]) rfl ?_
  refine W.eq (g2 := F0 m 6 ls [.int (1 : Int32), .ref h0]) (by rw [show (su_in (nI j) 0 ((nI n) - 1)) = (1 : Int32) from su_hin_i hj (by omega)]) ?_
  refine lv_if_eq (tgt := 22) hx hb dd_M_hydrantAt_6 (by decide) (fun c31 => absurd c31 (by decide)) (fun c31 => ?_)
  refine lv_iload_n hx hb dd_M_hydrantAt_9 rfl (lv_at hl 2 rfl) ?_
  refine lv_iconst (v := 0) hx hb dd_M_hydrantAt_10 (by decide) ?_
  refine lv_iconst (v := 5) hx hb dd_M_hydrantAt_11 (by decide) ?_
  refine cx_after (cx_rS (n := 3) (As := [.int p2, .int (0 : Int32), .int (5 : Int32)]) (rest := [.ref h0]) ⟨hx, hb, hml, hown, hg⟩ (c_M_in l z D ac sa P p2 (0 : Int32) (5 : Int32)) (cx_gs gm_M_72 gt_M_in gn_M gc_M_in) (by decide +kernel) ⟨by decide, by decide⟩ hK hw rfl hl.1 rfl (Nat.le_of_ble_eq_true rfl) dd_M_hydrantAt_12 ⟨by decide, by decide⟩) hw (fun v9 P9 H locs hp hw => ?_)
  obtain ⟨rfl, e9⟩ := hp
  rw [e9] at hw
  clear e9 P9
  refine W.eq (g2 := F0 m 15 ls [.int (su_in p2 (0 : Int32) (5 : Int32)), .ref h0]) rfl ?_
  refine W.eq (g2 := F0 m 15 ls [.int (1 : Int32), .ref h0]) (by rw [show (su_in p2 (0 : Int32) (5 : Int32)) = (1 : Int32) from su_in_z.resolve_left hB]) ?_
  refine lv_if_eq (tgt := 22) hx hb dd_M_hydrantAt_15 (by decide) (fun c32 => absurd c32 (by decide)) (fun c32 => ?_)
  refine lv_iconst (v := 1) hx hb dd_M_hydrantAt_18 (by decide) ?_
  refine lv_goto (tgt := 23) hx hb dd_M_hydrantAt_19 (by decide) ?_
  refine lv_iconst (v := 1) hx hb dd_M_hydrantAt_23 (by decide) ?_
  refine lv_iconst (v := 1) hx hb dd_M_hydrantAt_24 (by decide) ?_
  refine lv_iconst (v := 1) hx hb dd_M_hydrantAt_25 (by decide) ?_
  refine cx_after (cx_rV (n := 4) (As := [.int (1 : Int32), .int (1 : Int32), .int (1 : Int32), .int (1 : Int32)]) (rest := []) ⟨hx, hb, hml, hown, hg⟩ (c_M_goes l z D ac sa P h0 ma mv th (nI n) al (nI t) so (1 : Int32) (1 : Int32) (1 : Int32) (1 : Int32) mw) (cx_gv gm_M_83 gi_M_goes gs_M_goes gn_M gc_M_goes) (by decide +kernel) ⟨by decide, by decide⟩ hK hw mw.1 rfl rfl hl.1 rfl (Nat.le_of_ble_eq_true rfl) dd_M_hydrantAt_26 ⟨by decide, by decide⟩) hw (fun v9 P9 H locs hp hw => ?_)
  obtain ⟨rfl, e9⟩ := hp
  rw [e9] at hw
  clear e9 P9
  refine W.eq (g2 := F0 m 29 ls [.int (if (su_gs (1 : Int32) (1 : Int32) (1 : Int32) (1 : Int32)) = 0 then 1 else 0)]) rfl ?_
  obtain ⟨P33, eP33⟩ : ∃ pmv : pm_T, pmv = pm_up P h0 (md_o ma (su_gs (1 : Int32) (1 : Int32) (1 : Int32) (1 : Int32)) (nI n) al (nI t) so) := ⟨_, rfl⟩
  have hw : pm_W z D cl_w (pm_up P h0 (md_o ma (su_gs (1 : Int32) (1 : Int32) (1 : Int32) (1 : Int32)) (nI n) al (nI t) so)) s.heap H _ := hw
  rw [← eP33] at hw
  have mwP33 : md_W P33 ac h0 ma mv (su_gs (1 : Int32) (1 : Int32) (1 : Int32) (1 : Int32)) (nI n) al (nI t) so := by rw [eP33]; exact md_W.obj mw
  have mfP33 : md_F P P33 h0 ma := by rw [eP33]; exact md_F.obj md_F.rf
  refine W.eq (g2 := F0 m 29 ls [.int (1 : Int32)]) (by rw [show (if (su_gs (1 : Int32) (1 : Int32) (1 : Int32) (1 : Int32)) = 0 then 1 else 0) = (1 : Int32) from by decide]) ?_
  refine lv_if_ne (tgt := 34) hx hb dd_M_hydrantAt_29 (by decide) (fun c34 => ?_) (fun c34 => absurd c34 (by decide))
  refine lv_iconst (v := 0) hx hb dd_M_hydrantAt_34 (by decide) ?_
  refine lv_istore_n (lv' := [(3, .int (0 : Int32)), (0, .ref h0), (1, .int (nI j)), (2, .int p2)]) hx hb dd_M_hydrantAt_35 rfl hl (by decide) rfl (fun ls hl => ?_)
  refine lv_iconst (v := 0) hx hb dd_M_hydrantAt_36 (by decide) ?_
  refine lv_istore (lv' := [(4, .int (0 : Int32)), (3, .int (0 : Int32)), (0, .ref h0), (1, .int (nI j)), (2, .int p2)]) hx hb dd_M_hydrantAt_37 hl (by decide) rfl (fun ls hl => ?_)
  have lp : ∀ (n9 k : Nat), k + n9 = t → ∀ (H : Heap) (locs : List Loc) (ls : Array Slot), pm_W z D cl_w P33 s.heap H locs → lv_has ls 5 [(4, .int (nI k)), (3, .int (nI (su_nct (mv 10) (nI j) k))), (0, .ref h0), (1, .int (nI j)), (2, .int p2)] → W p l e ({ frames := 3, cells := 0, slots := 0, locals := 90 } : Room) s m ([.ref h0, .int (nI j), .int p2] : List Value).toArray below meth c H locs 0 0 (MQ below (cx_Q z D (fun v P' => v = some (.int (su_mha mv t j p2)) ∧ md_W P' ac h0 ma mv 0 (nI n) al (nI t) so ∧ md_F P P' h0 ma)) ([.ref h0, .int (nI j), .int p2] : List Value).toArray s ({ frames := 3, cells := 0, slots := 0, locals := 90 } : Room).cells ({ frames := 3, cells := 0, slots := 0, locals := 90 } : Room).slots (pm_A z)) (F0 m 39 ls []) := by
    intro n9
    induction n9 with
    | zero =>
      intro k hk H locs ls hw hl
      have hk : k = t := by omega
      refine lv_iload hx hb dd_M_hydrantAt_39 (lv_at hl 0 rfl) ?_
      refine lv_aload_n hx hb dd_M_hydrantAt_41 rfl (lv_at hl 2 rfl) ?_
      refine pm_get (ci := 6) (C := cn_M) (T := cf_M) (N := 23) (v := .int (nI t)) hx hb hg gu_M hown hK.2.1 hw mwP33.1 rfl 13 (by decide) (hg _ gf_M_104) (fun _ h9 => h9) rfl dd_M_hydrantAt_42 ?_
      refine lv_icmp_ge (tgt := 68) hx hb dd_M_hydrantAt_45 (by decide) (fun c35 => ?_) (fun c35 => absurd (by rw [hk]; exact Int32.le_refl _) c35)
      refine lv_iload_n hx hb dd_M_hydrantAt_68 rfl (lv_at hl 4 rfl) ?_
      refine lv_if_ne (tgt := 81) hx hb dd_M_hydrantAt_69 (by decide) (fun c36 => ?_) (fun c36 => ?_)
      · skip
        refine lv_iload_n hx hb dd_M_hydrantAt_81 rfl (lv_at hl 4 rfl) ?_
        refine lv_iconst (v := 1) hx hb dd_M_hydrantAt_82 (by decide) ?_
        refine lv_icmp_ne (tgt := 95) hx hb dd_M_hydrantAt_83 (by decide) (fun c37 => ?_) (fun c37 => ?_)
        · skip
          refine lv_iload_n hx hb dd_M_hydrantAt_95 rfl (lv_at hl 4 rfl) ?_
          refine lv_iconst (v := 2) hx hb dd_M_hydrantAt_96 (by decide) ?_
          refine lv_icmp_ne (tgt := 109) hx hb dd_M_hydrantAt_97 (by decide) (fun c38 => ?_) (fun c38 => ?_)
          · skip
            refine lv_iload_n hx hb dd_M_hydrantAt_109 rfl (lv_at hl 4 rfl) ?_
            refine lv_iconst (v := 3) hx hb dd_M_hydrantAt_110 (by decide) ?_
            refine lv_icmp_ne (tgt := 122) hx hb dd_M_hydrantAt_111 (by decide) (fun c39 => ?_) (fun c39 => ?_)
            · skip
              refine lv_iload_n hx hb dd_M_hydrantAt_122 rfl (lv_at hl 4 rfl) ?_
              refine lv_iconst (v := 4) hx hb dd_M_hydrantAt_123 (by decide) ?_
              refine lv_icmp_ne (tgt := 131) hx hb dd_M_hydrantAt_124 (by decide) (fun c40 => ?_) (fun c40 => ?_)
              · skip
                refine lv_aload_n hx hb dd_M_hydrantAt_131 rfl (lv_at hl 2 rfl) ?_
                refine pm_get (ci := 6) (C := cn_M) (T := cf_M) (N := 23) (v := .ref (ma 5)) hx hb hg gu_M hown hK.2.1 hw mwP33.1 rfl 7 (by decide) (hg _ gf_M_25) (fun _ h9 => h9) rfl dd_M_hydrantAt_132 ?_
                refine lv_iload_n hx hb dd_M_hydrantAt_135 rfl (lv_at hl 3 rfl) ?_
                refine pm_iald hx hb hK.2.1 hw 0 (show P33 (ma 5) = some (.inl (ac 0, 40, .inl (mv 5))) from mwP33.2.1 5 (by decide)) rfl (vp_in_nI (by omega) (by decide)) dd_M_hydrantAt_136 ?_
                refine W.eq (g2 := F0 m 137 ls [.int (mv 5 j)]) (by rw [show ((mv 5) ((nI j).toNatClampNeg)) = (mv 5 j) from by rw [nI_clamp (by omega)]]) ?_
                refine cx_iret (v := (mv 5 j)) hx hb hr rfl hlocks hw dd_M_hydrantAt_137 (by decide) (by decide) ?_
                exact ⟨by rw [su_mha, if_neg c36, if_neg c37, if_neg c38, if_neg c39, if_neg c40], mwP33, mfP33⟩
              · skip
                refine lv_iload_n hx hb dd_M_hydrantAt_127 rfl (lv_at hl 1 rfl) ?_
                refine lv_goto (tgt := 137) hx hb dd_M_hydrantAt_128 (by decide) ?_
                refine cx_iret (v := (nI (su_nct (mv 10) (nI j) k))) hx hb hr rfl hlocks hw dd_M_hydrantAt_137 (by decide) (by decide) ?_
                exact ⟨by rw [su_mha, if_neg c36, if_neg c37, if_neg c38, if_neg c39, if_pos c40]; rw [hk], mwP33, mfP33⟩
            · skip
              refine lv_aload_n hx hb dd_M_hydrantAt_114 rfl (lv_at hl 2 rfl) ?_
              refine lv_iload_n hx hb dd_M_hydrantAt_115 rfl (lv_at hl 3 rfl) ?_
              refine cx_after (cx_rV (n := 1) (As := [.int (nI j)]) (rest := []) ⟨hx, hb, hml, hown, hg⟩ (c_M_counts l z D ac sa P33 h0 ma mv (su_gs (1 : Int32) (1 : Int32) (1 : Int32) (1 : Int32)) (nI n) al (nI t) so (nI j) t ht100 rfl mwP33) (cx_gv gm_M_107 gi_M_counts gs_M_counts gn_M gc_M_counts) (by decide +kernel) ⟨by decide, by decide⟩ hK hw mwP33.1 rfl rfl hl.1 rfl (Nat.le_of_ble_eq_true rfl) dd_M_hydrantAt_116 ⟨by decide, by decide⟩) hw (fun v9 P9 H locs hp hw => ?_)
              obtain ⟨rfl, e9⟩ := hp
              rw [e9] at hw
              clear e9 P9
              refine W.eq (g2 := F0 m 119 ls [.int (su_oi (su_cm (mv 10) (mv 11) (nI j) t))]) rfl ?_
              refine lv_goto (tgt := 137) hx hb dd_M_hydrantAt_119 (by decide) ?_
              refine cx_iret (v := (su_oi (su_cm (mv 10) (mv 11) (nI j) t))) hx hb hr rfl hlocks hw dd_M_hydrantAt_137 (by decide) (by decide) ?_
              exact ⟨by rw [su_mha, if_neg c36, if_neg c37, if_neg c38, if_pos c39], mwP33, mfP33⟩
          · skip
            refine lv_aload_n hx hb dd_M_hydrantAt_100 rfl (lv_at hl 2 rfl) ?_
            refine pm_get (ci := 6) (C := cn_M) (T := cf_M) (N := 23) (v := .ref (ma 4)) hx hb hg gu_M hown hK.2.1 hw mwP33.1 rfl 6 (by decide) (hg _ gf_M_22) (fun _ h9 => h9) rfl dd_M_hydrantAt_101 ?_
            refine lv_iload_n hx hb dd_M_hydrantAt_104 rfl (lv_at hl 3 rfl) ?_
            refine pm_iald hx hb hK.2.1 hw 0 (show P33 (ma 4) = some (.inl (ac 0, 40, .inl (mv 4))) from mwP33.2.1 4 (by decide)) rfl (vp_in_nI (by omega) (by decide)) dd_M_hydrantAt_105 ?_
            refine W.eq (g2 := F0 m 106 ls [.int (mv 4 j)]) (by rw [show ((mv 4) ((nI j).toNatClampNeg)) = (mv 4 j) from by rw [nI_clamp (by omega)]]) ?_
            refine lv_goto (tgt := 137) hx hb dd_M_hydrantAt_106 (by decide) ?_
            refine cx_iret (v := (mv 4 j)) hx hb hr rfl hlocks hw dd_M_hydrantAt_137 (by decide) (by decide) ?_
            exact ⟨by rw [su_mha, if_neg c36, if_neg c37, if_pos c38], mwP33, mfP33⟩
        · skip
          refine lv_aload_n hx hb dd_M_hydrantAt_86 rfl (lv_at hl 2 rfl) ?_
          refine pm_get (ci := 6) (C := cn_M) (T := cf_M) (N := 23) (v := .ref (ma 3)) hx hb hg gu_M hown hK.2.1 hw mwP33.1 rfl 5 (by decide) (hg _ gf_M_19) (fun _ h9 => h9) rfl dd_M_hydrantAt_87 ?_
          refine lv_iload_n hx hb dd_M_hydrantAt_90 rfl (lv_at hl 3 rfl) ?_
          refine pm_iald hx hb hK.2.1 hw 0 (show P33 (ma 3) = some (.inl (ac 0, 40, .inl (mv 3))) from mwP33.2.1 3 (by decide)) rfl (vp_in_nI (by omega) (by decide)) dd_M_hydrantAt_91 ?_
          refine W.eq (g2 := F0 m 92 ls [.int (mv 3 j)]) (by rw [show ((mv 3) ((nI j).toNatClampNeg)) = (mv 3 j) from by rw [nI_clamp (by omega)]]) ?_
          refine lv_goto (tgt := 137) hx hb dd_M_hydrantAt_92 (by decide) ?_
          refine cx_iret (v := (mv 3 j)) hx hb hr rfl hlocks hw dd_M_hydrantAt_137 (by decide) (by decide) ?_
          exact ⟨by rw [su_mha, if_neg c36, if_pos c37], mwP33, mfP33⟩
      · skip
        refine lv_aload_n hx hb dd_M_hydrantAt_72 rfl (lv_at hl 2 rfl) ?_
        refine pm_get (ci := 6) (C := cn_M) (T := cf_M) (N := 23) (v := .ref (ma 2)) hx hb hg gu_M hown hK.2.1 hw mwP33.1 rfl 4 (by decide) (hg _ gf_M_16) (fun _ h9 => h9) rfl dd_M_hydrantAt_73 ?_
        refine lv_iload_n hx hb dd_M_hydrantAt_76 rfl (lv_at hl 3 rfl) ?_
        refine pm_iald hx hb hK.2.1 hw 0 (show P33 (ma 2) = some (.inl (ac 0, 40, .inl (mv 2))) from mwP33.2.1 2 (by decide)) rfl (vp_in_nI (by omega) (by decide)) dd_M_hydrantAt_77 ?_
        refine W.eq (g2 := F0 m 78 ls [.int (mv 2 j)]) (by rw [show ((mv 2) ((nI j).toNatClampNeg)) = (mv 2 j) from by rw [nI_clamp (by omega)]]) ?_
        refine lv_goto (tgt := 137) hx hb dd_M_hydrantAt_78 (by decide) ?_
        refine cx_iret (v := (mv 2 j)) hx hb hr rfl hlocks hw dd_M_hydrantAt_137 (by decide) (by decide) ?_
        exact ⟨by rw [su_mha, if_pos c36], mwP33, mfP33⟩
    | succ n9 ih =>
      intro k hk H locs ls hw hl
      have hlt : k < t := by omega
      refine lv_iload hx hb dd_M_hydrantAt_39 (lv_at hl 0 rfl) ?_
      refine lv_aload_n hx hb dd_M_hydrantAt_41 rfl (lv_at hl 2 rfl) ?_
      refine pm_get (ci := 6) (C := cn_M) (T := cf_M) (N := 23) (v := .int (nI t)) hx hb hg gu_M hown hK.2.1 hw mwP33.1 rfl 13 (by decide) (hg _ gf_M_104) (fun _ h9 => h9) rfl dd_M_hydrantAt_42 ?_
      refine lv_icmp_ge (tgt := 68) hx hb dd_M_hydrantAt_45 (by decide) (fun c41 => absurd c41 (nI_ge hlt (by omega))) (fun c41 => ?_)
      refine lv_aload_n hx hb dd_M_hydrantAt_48 rfl (lv_at hl 2 rfl) ?_
      refine pm_get (ci := 6) (C := cn_M) (T := cf_M) (N := 23) (v := .ref (ma 10)) hx hb hg gu_M hown hK.2.1 hw mwP33.1 rfl 14 (by decide) (hg _ gf_M_41) (fun _ h9 => h9) rfl dd_M_hydrantAt_49 ?_
      refine lv_iload hx hb dd_M_hydrantAt_52 (lv_at hl 0 rfl) ?_
      refine pm_iald hx hb hK.2.1 hw 0 (show P33 (ma 10) = some (.inl (ac 0, 100, .inl (mv 10))) from mwP33.2.1 10 (by decide)) rfl (vp_in_nI (by omega) (by decide)) dd_M_hydrantAt_54 ?_
      refine W.eq (g2 := F0 m 55 ls [.int (mv 10 k)]) (by rw [show ((mv 10) ((nI k).toNatClampNeg)) = (mv 10 k) from by rw [nI_clamp (by omega)]]) ?_
      refine lv_iload_n hx hb dd_M_hydrantAt_55 rfl (lv_at hl 3 rfl) ?_
      refine lv_icmp_ne (tgt := 62) hx hb dd_M_hydrantAt_56 (by decide) (fun c42 => ?_) (fun c42 => ?_)
      · skip
        obtain ⟨x43, ex43⟩ : ∃ y : Int32, y = (nI k) + 1 := ⟨_, rfl⟩
        refine lv_iinc (v := x43) (lv' := [(4, .int x43), (3, .int (nI (su_nct (mv 10) (nI j) k))), (0, .ref h0), (1, .int (nI j)), (2, .int p2)]) hx hb dd_M_hydrantAt_62 hl (k := 0) rfl (by rw [ex43]; rfl) (by decide) rfl (fun ls hl => ?_)
        refine lv_goto (tgt := 39) hx hb dd_M_hydrantAt_65 (by decide) ?_
        have hi7 : x43 = nI (k + 1) := by rw [ex43]; exact nI_1 k
        rw [hi7] at hl
        rw [show su_nct (mv 10) (nI j) k = su_nct (mv 10) (nI j) (k + 1) from by simp only [su_nct, if_neg c42]] at hl
        exact ih (k + 1) (by omega) H _ ls hw (lv_sub hl [0, 1, 2, 3, 4] rfl)
      · skip
        obtain ⟨x44, ex44⟩ : ∃ y : Int32, y = (nI (su_nct (mv 10) (nI j) k)) + 1 := ⟨_, rfl⟩
        refine lv_iinc (v := x44) (lv' := [(3, .int x44), (4, .int (nI k)), (0, .ref h0), (1, .int (nI j)), (2, .int p2)]) hx hb dd_M_hydrantAt_59 hl (k := 1) rfl (by rw [ex44]; rfl) (by decide) rfl (fun ls hl => ?_)
        obtain ⟨x45, ex45⟩ : ∃ y : Int32, y = (nI k) + 1 := ⟨_, rfl⟩
        refine lv_iinc (v := x45) (lv' := [(4, .int x45), (3, .int x44), (0, .ref h0), (1, .int (nI j)), (2, .int p2)]) hx hb dd_M_hydrantAt_62 hl (k := 1) rfl (by rw [ex45]; rfl) (by decide) rfl (fun ls hl => ?_)
        refine lv_goto (tgt := 39) hx hb dd_M_hydrantAt_65 (by decide) ?_
        have hi7 : x45 = nI (k + 1) := by rw [ex45]; exact nI_1 k
        rw [hi7] at hl
        have hi6 : x44 = nI (su_nct (mv 10) (nI j) (k + 1)) := by rw [ex44]; simp only [su_nct, if_pos c42]; exact nI_1 _
        rw [hi6] at hl
        exact ih (k + 1) (by omega) H _ ls hw (lv_sub hl [0, 1, 2, 3, 4] rfl)
  exact lp t 0 (Nat.zero_add t) _ _ ls hw (lv_sub hl [0, 1, 2, 3, 4] rfl)
