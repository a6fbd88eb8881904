theorem nI_dec {a : Nat} : nI (a + 1) + (-1) = nI a := pk_m1 a
/-- one more key among n keys -/
def su_ins (kf kg : Nat → Int32) (n a : Nat) (ky : Int32) : Prop := a ≤ n ∧ (∀ j, j < a → kg j = kf j) ∧ kg a = ky ∧ (∀ j, a ≤ j → j < n → kg (j + 1) = kf j) ∧ (∀ j, a ≤ j → j < n → ky < kf j) ∧ (a = 0 ∨ kf (a - 1) ≤ ky)

set_option maxHeartbeats 4000000 in
set_option maxRecDepth 100000 in
theorem c_K_insert (l : Launch) (z : Nat) (D : va_G) (ac : Nat → ClassId) (sa : Nat → Nat) (P : pm_T) (h0 ak n : Nat) (kf : Nat → Int32) (p1 p2 : Int32) (hn : n < 40) (f0 : P h0 = some (.inr (4, [.ref ak, .int (nI n)]))) (f1 : P ak = some (.inl (ac 0, 40, .inl kf))) : cx_M l yy_K_insert bb_K_insert 5 none ({ frames := 0, cells := 0, slots := 0, locals := 0 } : Room) z D ac sa P [.ref h0, .int p1, .int p2] (fun v P' => v = none ∧ ∃ (a : Nat) (kg : Nat → Int32), su_ins kf kg n a (p1 * 40 + p2) ∧ P' = pm_up (pm_up P ak (.inl (ac 0, 40, .inl kg))) h0 (.inr (4, [.ref ak, .int (nI n + 1)]))) := by
  refine cx_ofM (by decide) (Nat.le_of_ble_eq_true rfl) (fun p e s m below meth c ls hx hb hr hml hg hown hlocks hin hK hw hl => ?_)
  have hl : lv_has ls 5 [(0, .ref h0), (1, .int p1), (2, .int p2)] := hl
  have hown : s.vm.findClass cn_K = some m.cls := hown
  have ex : ∀ (ky : Int32) (a : Nat) (kg : Nat → Int32) (Pk : pm_T), ky = p1 * 40 + p2 → a ≤ n → (∀ j, j < a → kg j = kf j) → (∀ j, a ≤ j → j < n → kg (j + 1) = kf j) → (∀ j, a ≤ j → j < n → ky < kf j) → (a = 0 ∨ kf (a - 1) ≤ ky) → Pk = pm_up P ak (.inl (ac 0, 40, .inl kg)) → ∀ (H : Heap) (locs : List Loc) (ls : Array Slot), pm_W z D cl_w Pk s.heap H locs → lv_has ls 5 [(4, .int (nI a)), (3, .int ky), (0, .ref h0), (1, .int p1), (2, .int p2)] → W p l e ({ frames := 0, cells := 0, slots := 0, locals := 0 } : Room) s m ([.ref h0, .int p1, .int p2] : List Value).toArray below meth c H locs 0 0 (MQ below (cx_Q z D (fun v P' => v = none ∧ ∃ (a : Nat) (kg : Nat → Int32), su_ins kf kg n a (p1 * 40 + p2) ∧ P' = pm_up (pm_up P ak (.inl (ac 0, 40, .inl kg))) h0 (.inr (4, [.ref ak, .int (nI n + 1)])))) ([.ref h0, .int p1, .int p2] : List Value).toArray s ({ frames := 0, cells := 0, slots := 0, locals := 0 } : Room).cells ({ frames := 0, cells := 0, slots := 0, locals := 0 } : Room).slots (pm_A z)) (F0 m 73 ls []) := by
    intro ky a kg Pk hky ha i1 i2 i3 i4 ePk H locs ls hw hl
    have f0 : Pk h0 = some (.inr (4, [.ref ak, .int (nI n)])) := by rw [ePk, pm_n (pm_ne f0 f1 (by simp))]; exact f0
    have f1 : Pk ak = some (.inl (ac 0, 40, .inl kg)) := by rw [ePk]; exact pm_s
    have hcl : (nI a).toNatClampNeg = a := nI_clamp (by omega)
    refine lv_aload_n hx hb dd_K_insert_73 rfl (lv_at hl 2 rfl) ?_
    refine pm_get (ci := 4) (C := cn_K) (T := cf_K) (N := 2) (v := .ref ak) hx hb hg gu_K hown hK.2.1 hw f0 rfl 0 (by decide) (hg _ gf_K_9) (fun _ h9 => h9) rfl dd_K_insert_74 ?_
    refine lv_iload hx hb dd_K_insert_77 (lv_at hl 0 rfl) ?_
    refine lv_iload_n hx hb dd_K_insert_79 rfl (lv_at hl 1 rfl) ?_
    refine pm_iast (x := ky) hx hb hK.2.1 hw 0 f1 rfl (vp_in_nI (n := a) (by omega) (by decide)) dd_K_insert_80 (fun H locs hw => ?_)
    have hw : pm_W z D cl_w (pm_up Pk ak (.inl (ac 0, 40, .inl (upd kg ((nI a).toNatClampNeg) ky)))) s.heap H _ := hw
    obtain ⟨P1, eP1⟩ : ∃ pmv : pm_T, pmv = pm_up Pk ak (.inl (ac 0, 40, .inl (upd kg ((nI a).toNatClampNeg) ky))) := ⟨_, rfl⟩
    rw [← eP1] at hw
    have f2 : P1 h0 = some (.inr (4, [.ref ak, .int (nI n)])) := by rw [eP1, pm_n (pm_ne f0 f1 (by simp))]; exact f0
    have f3 : P1 ak = some (.inl (ac 0, 40, .inl (upd kg ((nI a).toNatClampNeg) ky))) := by rw [eP1]; exact pm_s
    refine lv_aload_n hx hb dd_K_insert_81 rfl (lv_at hl 2 rfl) ?_
    refine lv_dup hx hb dd_K_insert_82 rfl ?_
    refine pm_get (ci := 4) (C := cn_K) (T := cf_K) (N := 2) (v := .int (nI n)) hx hb hg gu_K hown hK.2.1 hw f2 rfl 1 (by decide) (hg _ gf_K_15) (fun _ h9 => h9) rfl dd_K_insert_83 ?_
    refine lv_iconst (v := 1) hx hb dd_K_insert_86 (by decide) ?_
    refine lv_iadd hx hb dd_K_insert_87 ?_
    refine lv_topi (fun x4 ex4 => ?_)
    refine pm_put (ci := 4) (v := .int x4) (ty := .int) (C := cn_K) (T := cf_K) (N := 2) hx hb hg gu_K ct_K co_K cm_K hown hK.2.1 hw f2 rfl 1 (by decide) (hg _ gf_K_15) (fun _ h9 => h9) rfl (by decide +kernel) rfl rfl (Nat.le_of_ble_eq_true rfl) dd_K_insert_88 (fun H locs hw => ?_)
    have hw : pm_W z D cl_w (pm_up P1 h0 (.inr (4, [.ref ak, .int x4]))) s.heap H _ := hw
    obtain ⟨P5, eP5⟩ : ∃ pmv : pm_T, pmv = pm_up P1 h0 (.inr (4, [.ref ak, .int x4])) := ⟨_, rfl⟩
    rw [← eP5] at hw
    have f6 : P5 ak = some (.inl (ac 0, 40, .inl (upd kg ((nI a).toNatClampNeg) ky))) := by rw [eP5, pm_n (pm_ne f3 f2 (by simp))]; exact f3
    have f7 : P5 h0 = some (.inr (4, [.ref ak, .int x4])) := by rw [eP5]; exact pm_s
    refine cx_vret hx hb hr hlocks hw dd_K_insert_91 (by decide) (by decide) ?_
    refine ⟨rfl, a, upd kg a ky, ⟨ha, fun j h => ?_, ?_, fun j h1 h2 => ?_, ?_, ?_⟩, ?_⟩
    · rw [pk_un (Nat.ne_of_lt h)]; exact i1 j h
    · rw [pk_us]; exact hky
    · rw [pk_un (by omega)]; exact i2 j h1 h2
    · rw [← hky]; exact i3
    · rw [← hky]; exact i4
    · simp only [eP5, eP1, ePk, ex4, pm_uu, hcl]
  have lp : ∀ (ky : Int32) (a : Nat), ∀ (kg : Nat → Int32) (Pk : pm_T), ky = p1 * 40 + p2 → a ≤ n → (∀ j, j < a → kg j = kf j) → (∀ j, a ≤ j → j < n → kg (j + 1) = kf j) → (∀ j, a ≤ j → j < n → ky < kf j) → Pk = pm_up P ak (.inl (ac 0, 40, .inl kg)) → ∀ (H : Heap) (locs : List Loc) (ls : Array Slot), pm_W z D cl_w Pk s.heap H locs → lv_has ls 5 [(4, .int (nI a)), (3, .int ky), (0, .ref h0), (1, .int p1), (2, .int p2)] → W p l e ({ frames := 0, cells := 0, slots := 0, locals := 0 } : Room) s m ([.ref h0, .int p1, .int p2] : List Value).toArray below meth c H locs 0 0 (MQ below (cx_Q z D (fun v P' => v = none ∧ ∃ (a : Nat) (kg : Nat → Int32), su_ins kf kg n a (p1 * 40 + p2) ∧ P' = pm_up (pm_up P ak (.inl (ac 0, 40, .inl kg))) h0 (.inr (4, [.ref ak, .int (nI n + 1)])))) ([.ref h0, .int p1, .int p2] : List Value).toArray s ({ frames := 0, cells := 0, slots := 0, locals := 0 } : Room).cells ({ frames := 0, cells := 0, slots := 0, locals := 0 } : Room).slots (pm_A z)) (F0 m 33 ls []) := by
    intro ky a
    induction a with
    | zero =>
      intro kg Pk hky ha i1 i2 i3 ePk H locs ls hw hl
      refine lv_iload hx hb dd_K_insert_33 (lv_at hl 0 rfl) ?_
      refine lv_if_le (tgt := 73) hx hb dd_K_insert_35 (by decide) (fun c1 => ?_) (fun c1 => absurd (by decide) c1)
      exact ex ky 0 kg Pk hky ha i1 i2 i3 (Or.inl rfl) ePk H locs ls hw hl
    | succ a ih =>
      intro kg Pk hky ha i1 i2 i3 ePk H locs ls hw hl
      have f0 : Pk h0 = some (.inr (4, [.ref ak, .int (nI n)])) := by rw [ePk, pm_n (pm_ne f0 f1 (by simp))]; exact f0
      have f1 : Pk ak = some (.inl (ac 0, 40, .inl kg)) := by rw [ePk]; exact pm_s
      have hs : nI (a + 1) - 1 = nI a := nI_pred a
      have hcl : (nI a).toNatClampNeg = a := nI_clamp (by omega)
      have hcl1 : (nI (a + 1)).toNatClampNeg = a + 1 := nI_clamp (by omega)
      refine lv_iload hx hb dd_K_insert_33 (lv_at hl 0 rfl) ?_
      refine lv_if_le (tgt := 73) hx hb dd_K_insert_35 (by decide) (fun c8 => absurd c8 (nI_nle (Nat.succ_pos a) (by omega))) (fun c8 => ?_)
      refine lv_aload_n hx hb dd_K_insert_38 rfl (lv_at hl 2 rfl) ?_
      refine pm_get (ci := 4) (C := cn_K) (T := cf_K) (N := 2) (v := .ref ak) hx hb hg gu_K hown hK.2.1 hw f0 rfl 0 (by decide) (hg _ gf_K_9) (fun _ h9 => h9) rfl dd_K_insert_39 ?_
      refine lv_iload hx hb dd_K_insert_42 (lv_at hl 0 rfl) ?_
      refine lv_iconst (v := 1) hx hb dd_K_insert_44 (by decide) ?_
      refine lv_isub hx hb dd_K_insert_45 ?_
      refine pm_iald hx hb hK.2.1 hw 0 f1 rfl (by rw [hs]; exact vp_in_nI (by omega) (by decide)) dd_K_insert_46 ?_
      refine lv_iload_n hx hb dd_K_insert_47 rfl (lv_at hl 1 rfl) ?_
      refine lv_icmp_le (tgt := 73) hx hb dd_K_insert_48 (by decide) (fun c9 => ?_) (fun c9 => ?_)
      · skip
        rw [hs, hcl, i1 a (Nat.lt_succ_self a)] at c9
        exact ex ky (a + 1) kg Pk hky ha i1 i2 i3 (Or.inr c9) ePk H locs ls hw (lv_sub hl [0, 1, 2, 3, 4] rfl)
      · skip
        refine lv_aload_n hx hb dd_K_insert_51 rfl (lv_at hl 2 rfl) ?_
        refine pm_get (ci := 4) (C := cn_K) (T := cf_K) (N := 2) (v := .ref ak) hx hb hg gu_K hown hK.2.1 hw f0 rfl 0 (by decide) (hg _ gf_K_9) (fun _ h9 => h9) rfl dd_K_insert_52 ?_
        refine lv_iload hx hb dd_K_insert_55 (lv_at hl 0 rfl) ?_
        refine lv_aload_n hx hb dd_K_insert_57 rfl (lv_at hl 2 rfl) ?_
        refine pm_get (ci := 4) (C := cn_K) (T := cf_K) (N := 2) (v := .ref ak) hx hb hg gu_K hown hK.2.1 hw f0 rfl 0 (by decide) (hg _ gf_K_9) (fun _ h9 => h9) rfl dd_K_insert_58 ?_
        refine lv_iload hx hb dd_K_insert_61 (lv_at hl 0 rfl) ?_
        refine lv_iconst (v := 1) hx hb dd_K_insert_63 (by decide) ?_
        refine lv_isub hx hb dd_K_insert_64 ?_
        refine pm_iald hx hb hK.2.1 hw 0 f1 rfl (by rw [hs]; exact vp_in_nI (by omega) (by decide)) dd_K_insert_65 ?_
        refine lv_topi (fun x10 ex10 => ?_)
        refine pm_iast (x := x10) hx hb hK.2.1 hw 0 f1 rfl (vp_in_nI (by omega) (by decide)) dd_K_insert_66 (fun H locs hw => ?_)
        have hw : pm_W z D cl_w (pm_up Pk ak (.inl (ac 0, 40, .inl (upd kg ((nI (a + 1)).toNatClampNeg) x10)))) s.heap H _ := hw
        obtain ⟨P11, eP11⟩ : ∃ pmv : pm_T, pmv = pm_up Pk ak (.inl (ac 0, 40, .inl (upd kg ((nI (a + 1)).toNatClampNeg) x10))) := ⟨_, rfl⟩
        rw [← eP11] at hw
        have f12 : P11 h0 = some (.inr (4, [.ref ak, .int (nI n)])) := by rw [eP11, pm_n (pm_ne f0 f1 (by simp))]; exact f0
        have f13 : P11 ak = some (.inl (ac 0, 40, .inl (upd kg ((nI (a + 1)).toNatClampNeg) x10))) := by rw [eP11]; exact pm_s
        obtain ⟨x14, ex14⟩ : ∃ y : Int32, y = (nI (a + 1)) + (-1) := ⟨_, rfl⟩
        refine lv_iinc (v := x14) (lv' := [(4, .int x14), (3, .int ky), (0, .ref h0), (1, .int p1), (2, .int p2)]) hx hb dd_K_insert_67 hl (k := 0) rfl (by rw [ex14]; rfl) (by decide) rfl (fun ls hl => ?_)
        refine lv_goto (tgt := 33) hx hb dd_K_insert_70 (by decide) ?_
        rw [hs, hcl, i1 a (Nat.lt_succ_self a)] at c9
        have hky2 : ky < kf a := Int32.not_le.mp c9
        rw [hcl1, ex10, hs, hcl] at eP11
        have hx4 : x14 = nI a := by rw [ex14]; exact nI_dec
        rw [hx4] at hl
        refine ih (upd kg (a + 1) (kg a)) P11 hky (by omega) (fun j h => ?_) (fun j h1 h2 => ?_) (fun j h1 h2 => ?_) ?_ H locs ls hw (lv_sub hl [0, 1, 2, 3, 4] rfl)
        · rw [pk_un (by omega)]; exact i1 j (by omega)
        · by_cases hj : j = a
          · rw [hj, pk_us]; exact i1 a (Nat.lt_succ_self a)
          · rw [pk_un (by omega)]; exact i2 j (by omega) h2
        · by_cases hj : j = a
          · rw [hj]; exact hky2
          · exact i3 j (by omega) h2
        · rw [eP11, ePk, pm_uu]
  refine lv_aload_n hx hb dd_K_insert_0 rfl (lv_at hl 0 rfl) ?_
  refine pm_get (ci := 4) (C := cn_K) (T := cf_K) (N := 2) (v := .int (nI n)) hx hb hg gu_K hown hK.2.1 hw f0 rfl 1 (by decide) (hg _ gf_K_15) (fun _ h9 => h9) rfl dd_K_insert_1 ?_
  refine lv_if_lt (tgt := 19) hx hb dd_K_insert_4 (by decide) (fun c15 => absurd c15 (nI_pos (by omega))) (fun c15 => ?_)
  refine lv_aload_n hx hb dd_K_insert_7 rfl (lv_at hl 0 rfl) ?_
  refine pm_get (ci := 4) (C := cn_K) (T := cf_K) (N := 2) (v := .int (nI n)) hx hb hg gu_K hown hK.2.1 hw f0 rfl 1 (by decide) (hg _ gf_K_15) (fun _ h9 => h9) rfl dd_K_insert_8 ?_
  refine lv_aload_n hx hb dd_K_insert_11 rfl (lv_at hl 0 rfl) ?_
  refine pm_get (ci := 4) (C := cn_K) (T := cf_K) (N := 2) (v := .ref ak) hx hb hg gu_K hown hK.2.1 hw f0 rfl 0 (by decide) (hg _ gf_K_9) (fun _ h9 => h9) rfl dd_K_insert_12 ?_
  refine pm_alen (v := 40) hx hb hK.2.1 hw 0 f1 rfl rfl dd_K_insert_15 ?_
  refine lv_icmp_lt (tgt := 20) hx hb dd_K_insert_16 (by decide) (fun c16 => ?_) (fun c16 => absurd (nI_lt hn (by decide)) c16)
  refine lv_iload_n hx hb dd_K_insert_20 rfl (lv_at hl 1 rfl) ?_
  refine lv_bipush (v := 40) hx hb dd_K_insert_21 (by decide) ?_
  refine lv_imul hx hb dd_K_insert_23 ?_
  refine lv_iload_n hx hb dd_K_insert_24 rfl (lv_at hl 2 rfl) ?_
  refine lv_iadd hx hb dd_K_insert_25 ?_
  refine lv_topi (fun x17 ex17 => ?_)
  refine lv_istore_n (lv' := [(3, .int x17), (0, .ref h0), (1, .int p1), (2, .int p2)]) hx hb dd_K_insert_26 rfl hl (by decide) rfl (fun ls hl => ?_)
  refine lv_aload_n hx hb dd_K_insert_27 rfl (lv_at hl 1 rfl) ?_
  refine pm_get (ci := 4) (C := cn_K) (T := cf_K) (N := 2) (v := .int (nI n)) hx hb hg gu_K hown hK.2.1 hw f0 rfl 1 (by decide) (hg _ gf_K_15) (fun _ h9 => h9) rfl dd_K_insert_28 ?_
  refine lv_istore (lv' := [(4, .int (nI n)), (3, .int x17), (0, .ref h0), (1, .int p1), (2, .int p2)]) hx hb dd_K_insert_31 hl (by decide) rfl (fun ls hl => ?_)
  exact lp x17 n kf P ex17 (Nat.le_refl n) (fun _ _ => rfl) (fun j h1 h2 => absurd h1 (by omega)) (fun j h1 h2 => absurd h1 (by omega)) (pm_id f1).symm _ _ ls hw (lv_sub hl [0, 1, 2, 3, 4] rfl)
