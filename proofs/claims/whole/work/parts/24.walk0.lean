/-- the way on: what is written of the way, the best way, the least -/
abbrev su_S : Type := (Nat → Int32) × (Nat → Int32) × Int32
def su_st (c : Nat) (gone : Int32) (d : Nat) (num : Nat → Int32) (rec : Nat → su_S → su_S) (i : Nat) (s : su_S) : su_S := if i < c ∧ su_bit gone (nI i) = 0 then rec i (upd s.1 d (num i), s.2.1, s.2.2) else s
def su_it (c : Nat) (gone : Int32) (d : Nat) (num : Nat → Int32) (rec : Nat → su_S → su_S) (s : su_S) : Nat → su_S
  | 0 => s
  | i + 1 => su_st c gone d num rec i (su_it c gone d num rec s i)
def su_go (c : Nat) (num xx yy : Nat → Int32) : Nat → Nat → Int32 → Int32 → Int32 → Int32 → su_S → su_S
  | 0, _, _, x, y, m, s => if m + su_hose x y 0 0 < s.2.2 then (s.1, s.1, m + su_hose x y 0 0) else s
  | f + 1, d, gone, x, y, m, s => if m + su_hose x y 0 0 < s.2.2 then (if c ≤ d then (s.1, s.1, m + su_hose x y 0 0) else su_it c gone d num (fun i t => su_go c num xx yy f (d + 1) (gone ||| ((1 : Int32) <<< (nI i &&& 31))) (xx i) (yy i) (m + su_hose (xx i) (yy i) x y) t) s 6) else s
def su_e6 (f g : Nat → Int32) : Prop := ∀ i, i < 6 → f i = g i
theorem su_e6_up {f g : Nat → Int32} {k : Nat} {x : Int32} (h : su_e6 f g) : su_e6 (upd f k x) (upd g k x) := by
  intro i hi
  by_cases hk : i = k
  · rw [hk, pk_us, pk_us]
  · rw [pk_un hk, pk_un hk]; exact h i hi

set_option maxHeartbeats 4000000 in
set_option maxRecDepth 100000 in
theorem c_A_clear (l : Launch) (z : Nat) (D : va_G) (ac : Nat → ClassId) (sa : Nat → Nat) (P : pm_T) (h0 aC aY aB : Nat) (cn lt : Int32) (fC : Nat → Option Nat) (f0 : P h0 = some (.inr (5, [.ref aC, .ref aY, .ref aB, .int cn, .int lt]))) (f1 : P aC = some (.inl (ac 3, 6, .inr (.inr (.inr (.inr fC)))))) : cx_M l yy_A_clear bb_A_clear 2 none ({ frames := 0, cells := 0, slots := 0, locals := 0 } : Room) z D ac sa P [.ref h0] (fun v P' => v = none ∧ ∃ fD : Nat → Option Nat, (∀ j, j < 6 → fD j = none) ∧ P' = pm_up (pm_up P aC (.inl (ac 3, 6, .inr (.inr (.inr (.inr fD)))))) h0 (.inr (5, [.ref aC, .ref aY, .ref aB, .int 0, .int lt]))) := by
  refine cx_ofM (by decide) (Nat.le_of_ble_eq_true rfl) (fun p e s m below meth c ls hx hb hr hml hg hown hlocks hin hK hw hl => ?_)
  have hl : lv_has ls 2 [(0, .ref h0)] := hl
  have hown : s.vm.findClass cn_A = some m.cls := hown
  have lp : ∀ (n k : Nat), k + n = 6 → ∀ (fD : Nat → Option Nat) (Pk : pm_T) (H : Heap) (locs : List Loc) (ls : Array Slot), Pk = pm_up P aC (.inl (ac 3, 6, .inr (.inr (.inr (.inr fD))))) → (∀ j, j < k → fD j = none) → pm_W z D cl_w Pk s.heap H locs → lv_has ls 2 [(1, .int (nI k)), (0, .ref h0)] → W p l e ({ frames := 0, cells := 0, slots := 0, locals := 0 } : Room) s m ([.ref h0] : List Value).toArray below meth c H locs 0 0 (MQ below (cx_Q z D (fun v P' => v = none ∧ ∃ fD : Nat → Option Nat, (∀ j, j < 6 → fD j = none) ∧ P' = pm_up (pm_up P aC (.inl (ac 3, 6, .inr (.inr (.inr (.inr fD)))))) h0 (.inr (5, [.ref aC, .ref aY, .ref aB, .int 0, .int lt])))) ([.ref h0] : List Value).toArray s ({ frames := 0, cells := 0, slots := 0, locals := 0 } : Room).cells ({ frames := 0, cells := 0, slots := 0, locals := 0 } : Room).slots (pm_A z)) (F0 m 2 ls []) := by
    intro n
    induction n with
    | zero =>
      intro k hk fD Pk H locs ls ePk hD hw hl
      have hk : k = 6 := by omega
      subst hk
      have k0 : Pk h0 = some (.inr (5, [.ref aC, .ref aY, .ref aB, .int cn, .int lt])) := by rw [ePk, pm_n (pm_ne f0 f1 (by simp))]; exact f0
      have k1 : Pk aC = some (.inl (ac 3, 6, .inr (.inr (.inr (.inr fD))))) := by rw [ePk]; exact pm_s
      refine lv_iload_n hx hb dd_A_clear_2 rfl (lv_at hl 0 rfl) ?_
      refine lv_aload_n hx hb dd_A_clear_3 rfl (lv_at hl 1 rfl) ?_
      refine pm_get (ci := 5) (C := cn_A) (T := cf_A) (N := 5) (v := .ref aC) hx hb hg gu_A hown hK.2.1 hw k0 rfl 0 (by decide) (hg _ gf_A_11) (fun _ h9 => h9) rfl dd_A_clear_4 ?_
      refine pm_alen (v := 6) hx hb hK.2.1 hw 3 k1 rfl rfl dd_A_clear_7 ?_
      refine lv_icmp_ge (tgt := 24) hx hb dd_A_clear_8 (by decide) (fun c1 => ?_) (fun c1 => absurd (nI_le (Nat.le_refl 6) (by decide)) c1)
      refine lv_aload_n hx hb dd_A_clear_24 rfl (lv_at hl 1 rfl) ?_
      refine lv_iconst (v := 0) hx hb dd_A_clear_25 (by decide) ?_
      refine pm_put (ci := 5) (v := .int (0 : Int32)) (ty := .int) (C := cn_A) (T := cf_A) (N := 5) hx hb hg gu_A ct_A co_A cm_A hown hK.2.1 hw k0 rfl 3 (by decide) (hg _ gf_A_24) (fun _ h9 => h9) rfl (by decide +kernel) rfl rfl (Nat.le_of_ble_eq_true rfl) dd_A_clear_26 (fun H locs hw => ?_)
      have hw : pm_W z D cl_w (pm_up Pk h0 (.inr (5, [.ref aC, .ref aY, .ref aB, .int (0 : Int32), .int lt]))) s.heap H _ := hw
      obtain ⟨P2, eP2⟩ : ∃ pmv : pm_T, pmv = pm_up Pk h0 (.inr (5, [.ref aC, .ref aY, .ref aB, .int (0 : Int32), .int lt])) := ⟨_, rfl⟩
      rw [← eP2] at hw
      have f3 : P2 aC = some (.inl (ac 3, 6, .inr (.inr (.inr (.inr fD))))) := by rw [eP2, pm_n (pm_ne k1 k0 (by simp))]; exact k1
      have f4 : P2 h0 = some (.inr (5, [.ref aC, .ref aY, .ref aB, .int (0 : Int32), .int lt])) := by rw [eP2]; exact pm_s
      refine cx_vret hx hb hr hlocks hw dd_A_clear_29 (by decide) (by decide) ?_
      exact ⟨rfl, fD, hD, by rw [eP2, ePk]⟩
    | succ n ih =>
      intro k hk fD Pk H locs ls ePk hD hw hl
      have hlt : k < 6 := by omega
      have hcl : (nI k).toNatClampNeg = k := nI_clamp (by omega)
      have k0 : Pk h0 = some (.inr (5, [.ref aC, .ref aY, .ref aB, .int cn, .int lt])) := by rw [ePk, pm_n (pm_ne f0 f1 (by simp))]; exact f0
      have k1 : Pk aC = some (.inl (ac 3, 6, .inr (.inr (.inr (.inr fD))))) := by rw [ePk]; exact pm_s
      refine lv_iload_n hx hb dd_A_clear_2 rfl (lv_at hl 0 rfl) ?_
      refine lv_aload_n hx hb dd_A_clear_3 rfl (lv_at hl 1 rfl) ?_
      refine pm_get (ci := 5) (C := cn_A) (T := cf_A) (N := 5) (v := .ref aC) hx hb hg gu_A hown hK.2.1 hw k0 rfl 0 (by decide) (hg _ gf_A_11) (fun _ h9 => h9) rfl dd_A_clear_4 ?_
      refine pm_alen (v := 6) hx hb hK.2.1 hw 3 k1 rfl rfl dd_A_clear_7 ?_
      refine lv_icmp_ge (tgt := 24) hx hb dd_A_clear_8 (by decide) (fun c5 => absurd c5 (nI_ge hlt (by decide))) (fun c5 => ?_)
      refine lv_aload_n hx hb dd_A_clear_11 rfl (lv_at hl 1 rfl) ?_
      refine pm_get (ci := 5) (C := cn_A) (T := cf_A) (N := 5) (v := .ref aC) hx hb hg gu_A hown hK.2.1 hw k0 rfl 0 (by decide) (hg _ gf_A_11) (fun _ h9 => h9) rfl dd_A_clear_12 ?_
      refine lv_iload_n hx hb dd_A_clear_15 rfl (lv_at hl 0 rfl) ?_
      refine lv_null hx hb dd_A_clear_16 ?_
      refine pm_aastN hx hb hK.2.1 hw 3 k1 rfl (vp_in_nI hlt (by decide)) dd_A_clear_17 (fun H locs hw => ?_)
      have hw : pm_W z D cl_w (pm_up Pk aC (.inl (ac 3, 6, .inr (.inr (.inr (.inr (va_up fD ((nI k).toNatClampNeg) none))))))) s.heap H _ := hw
      obtain ⟨P6, eP6⟩ : ∃ pmv : pm_T, pmv = pm_up Pk aC (.inl (ac 3, 6, .inr (.inr (.inr (.inr (va_up fD ((nI k).toNatClampNeg) none)))))) := ⟨_, rfl⟩
      rw [← eP6] at hw
      have f7 : P6 h0 = some (.inr (5, [.ref aC, .ref aY, .ref aB, .int cn, .int lt])) := by rw [eP6, pm_n (pm_ne k0 k1 (by simp))]; exact k0
      have f8 : P6 aC = some (.inl (ac 3, 6, .inr (.inr (.inr (.inr (va_up fD ((nI k).toNatClampNeg) none)))))) := by rw [eP6]; exact pm_s
      obtain ⟨x9, ex9⟩ : ∃ y : Int32, y = (nI k) + 1 := ⟨_, rfl⟩
      refine lv_iinc (v := x9) (lv' := [(1, .int x9), (0, .ref h0)]) hx hb dd_A_clear_18 hl (k := 0) rfl (by rw [ex9]; rfl) (by decide) rfl (fun ls hl => ?_)
      refine lv_goto (tgt := 2) hx hb dd_A_clear_21 (by decide) ?_
      have hi : x9 = nI (k + 1) := by rw [ex9]; exact nI_1 k
      rw [hi] at hl
      refine ih (k + 1) (by omega) (va_up fD k none) P6 H _ ls (by rw [eP6, ePk, pm_uu, hcl]) (fun j hj => ?_) hw (lv_sub hl [0, 1] rfl)
      by_cases hjk : j = k
      · simp only [va_up, hjk, if_true]
      · simp only [va_up, if_neg hjk]; exact hD j (by omega)
  refine lv_iconst (v := 0) hx hb dd_A_clear_0 (by decide) ?_
  refine lv_istore_n (lv' := [(1, .int (0 : Int32)), (0, .ref h0)]) hx hb dd_A_clear_1 rfl hl (by decide) rfl (fun ls hl => ?_)
  exact lp 6 0 (by decide) fC P _ _ ls (pm_id f1).symm (fun j hj => absurd hj (Nat.not_lt_zero j)) hw (lv_sub hl [0, 1] rfl)

set_option maxHeartbeats 4000000 in
set_option maxRecDepth 100000 in
theorem c_A_choose (l : Launch) (z : Nat) (D : va_G) (ac : Nat → ClassId) (sa : Nat → Nat) (P : pm_T) (h0 aC aY aB n : Nat) (lt : Int32) (fC : Nat → Option Nat) (q : Nat) (vs : List Value) (hn : n < 6) (fq : P q = some (.inr (1, vs))) (f0 : P h0 = some (.inr (5, [.ref aC, .ref aY, .ref aB, .int (nI n), .int lt]))) (f1 : P aC = some (.inl (ac 3, 6, .inr (.inr (.inr (.inr fC)))))) : cx_M l yy_A_choose bb_A_choose 2 none ({ frames := 0, cells := 0, slots := 0, locals := 0 } : Room) z D ac sa P [.ref h0, .ref q] (fun v P' => v = none ∧ P' = pm_up (pm_up P aC (.inl (ac 3, 6, .inr (.inr (.inr (.inr (va_up fC n (some q)))))))) h0 (.inr (5, [.ref aC, .ref aY, .ref aB, .int (nI n + 1), .int lt]))) := by
  refine cx_ofM (by decide) (Nat.le_of_ble_eq_true rfl) (fun p e s m below meth c ls hx hb hr hml hg hown hlocks hin hK hw hl => ?_)
  have hl : lv_has ls 2 [(0, .ref h0), (1, .ref q)] := hl
  have hown : s.vm.findClass cn_A = some m.cls := hown
  have hcl : (nI n).toNatClampNeg = n := nI_clamp (by omega)
  refine lv_aload_n hx hb dd_A_choose_0 rfl (lv_at hl 0 rfl) ?_
  refine pm_get (ci := 5) (C := cn_A) (T := cf_A) (N := 5) (v := .int (nI n)) hx hb hg gu_A hown hK.2.1 hw f0 rfl 3 (by decide) (hg _ gf_A_24) (fun _ h9 => h9) rfl dd_A_choose_1 ?_
  refine lv_if_lt (tgt := 39) hx hb dd_A_choose_4 (by decide) (fun c1 => absurd c1 (nI_pos (by omega))) (fun c1 => ?_)
  refine lv_aload_n hx hb dd_A_choose_7 rfl (lv_at hl 0 rfl) ?_
  refine pm_get (ci := 5) (C := cn_A) (T := cf_A) (N := 5) (v := .int (nI n)) hx hb hg gu_A hown hK.2.1 hw f0 rfl 3 (by decide) (hg _ gf_A_24) (fun _ h9 => h9) rfl dd_A_choose_8 ?_
  refine lv_aload_n hx hb dd_A_choose_11 rfl (lv_at hl 0 rfl) ?_
  refine pm_get (ci := 5) (C := cn_A) (T := cf_A) (N := 5) (v := .ref aC) hx hb hg gu_A hown hK.2.1 hw f0 rfl 0 (by decide) (hg _ gf_A_11) (fun _ h9 => h9) rfl dd_A_choose_12 ?_
  refine pm_alen (v := 6) hx hb hK.2.1 hw 3 f1 rfl rfl dd_A_choose_15 ?_
  refine lv_icmp_ge (tgt := 39) hx hb dd_A_choose_16 (by decide) (fun c2 => absurd c2 (nI_ge hn (by decide))) (fun c2 => ?_)
  refine lv_aload_n hx hb dd_A_choose_19 rfl (lv_at hl 0 rfl) ?_
  refine pm_get (ci := 5) (C := cn_A) (T := cf_A) (N := 5) (v := .ref aC) hx hb hg gu_A hown hK.2.1 hw f0 rfl 0 (by decide) (hg _ gf_A_11) (fun _ h9 => h9) rfl dd_A_choose_20 ?_
  refine lv_aload_n hx hb dd_A_choose_23 rfl (lv_at hl 0 rfl) ?_
  refine pm_get (ci := 5) (C := cn_A) (T := cf_A) (N := 5) (v := .int (nI n)) hx hb hg gu_A hown hK.2.1 hw f0 rfl 3 (by decide) (hg _ gf_A_24) (fun _ h9 => h9) rfl dd_A_choose_24 ?_
  refine lv_aload_n hx hb dd_A_choose_27 rfl (lv_at hl 1 rfl) ?_
  refine pm_aast (r := (cn_H, cf_H, 11)) hx hb hK.2.1 hw 3 1 f1 rfl fq rfl (vp_in_nI hn (by decide)) dd_A_choose_28 (fun H locs hw => ?_)
  have hw : pm_W z D cl_w (pm_up P aC (.inl (ac 3, 6, .inr (.inr (.inr (.inr (va_up fC ((nI n).toNatClampNeg) (some q)))))))) s.heap H _ := hw
  obtain ⟨P3, eP3⟩ : ∃ pmv : pm_T, pmv = pm_up P aC (.inl (ac 3, 6, .inr (.inr (.inr (.inr (va_up fC ((nI n).toNatClampNeg) (some q))))))) := ⟨_, rfl⟩
  rw [← eP3] at hw
  have f4 : P3 h0 = some (.inr (5, [.ref aC, .ref aY, .ref aB, .int (nI n), .int lt])) := by rw [eP3, pm_n (pm_ne f0 f1 (by simp))]; exact f0
  have f5 : P3 q = some (.inr (1, vs)) := by rw [eP3, pm_n (pm_ne fq f1 (by simp))]; exact fq
  have f6 : P3 aC = some (.inl (ac 3, 6, .inr (.inr (.inr (.inr (va_up fC ((nI n).toNatClampNeg) (some q))))))) := by rw [eP3]; exact pm_s
  refine lv_aload_n hx hb dd_A_choose_29 rfl (lv_at hl 0 rfl) ?_
  refine lv_dup hx hb dd_A_choose_30 rfl ?_
  refine pm_get (ci := 5) (C := cn_A) (T := cf_A) (N := 5) (v := .int (nI n)) hx hb hg gu_A hown hK.2.1 hw f4 rfl 3 (by decide) (hg _ gf_A_24) (fun _ h9 => h9) rfl dd_A_choose_31 ?_
  refine lv_iconst (v := 1) hx hb dd_A_choose_34 (by decide) ?_
  refine lv_iadd hx hb dd_A_choose_35 ?_
  refine lv_topi (fun x7 ex7 => ?_)
  refine pm_put (ci := 5) (v := .int x7) (ty := .int) (C := cn_A) (T := cf_A) (N := 5) hx hb hg gu_A ct_A co_A cm_A hown hK.2.1 hw f4 rfl 3 (by decide) (hg _ gf_A_24) (fun _ h9 => h9) rfl (by decide +kernel) rfl rfl (Nat.le_of_ble_eq_true rfl) dd_A_choose_36 (fun H locs hw => ?_)
  have hw : pm_W z D cl_w (pm_up P3 h0 (.inr (5, [.ref aC, .ref aY, .ref aB, .int x7, .int lt]))) s.heap H _ := hw
  obtain ⟨P8, eP8⟩ : ∃ pmv : pm_T, pmv = pm_up P3 h0 (.inr (5, [.ref aC, .ref aY, .ref aB, .int x7, .int lt])) := ⟨_, rfl⟩
  rw [← eP8] at hw
  have f9 : P8 q = some (.inr (1, vs)) := by rw [eP8, pm_n (pm_ne f5 f4 (by simp))]; exact f5
  have f10 : P8 aC = some (.inl (ac 3, 6, .inr (.inr (.inr (.inr (va_up fC ((nI n).toNatClampNeg) (some q))))))) := by rw [eP8, pm_n (pm_ne f6 f4 (by simp))]; exact f6
  have f11 : P8 h0 = some (.inr (5, [.ref aC, .ref aY, .ref aB, .int x7, .int lt])) := by rw [eP8]; exact pm_s
  refine cx_vret hx hb hr hlocks hw dd_A_choose_39 (by decide) (by decide) ?_
  exact ⟨rfl, by simp only [eP8, eP3, ex7, hcl]⟩

set_option maxHeartbeats 4000000 in
set_option maxRecDepth 100000 in
theorem c_A_keepWay (l : Launch) (z : Nat) (D : va_G) (ac : Nat → ClassId) (sa : Nat → Nat) (P : pm_T) (h0 aC aY aB : Nat) (cn lt : Int32) (fY fB : Nat → Int32) (p1 : Int32) (hYB : aY ≠ aB) (f0 : P h0 = some (.inr (5, [.ref aC, .ref aY, .ref aB, .int cn, .int lt]))) (f1 : P aY = some (.inl (ac 0, 6, .inl fY))) (f2 : P aB = some (.inl (ac 0, 6, .inl fB))) : cx_M l yy_A_keepWay bb_A_keepWay 3 none ({ frames := 0, cells := 0, slots := 0, locals := 0 } : Room) z D ac sa P [.ref h0, .int p1] (fun v P' => v = none ∧ ∃ fD : Nat → Int32, su_e6 fD fY ∧ P' = pm_up (pm_up P aB (.inl (ac 0, 6, .inl fD))) h0 (.inr (5, [.ref aC, .ref aY, .ref aB, .int cn, .int p1]))) := by
  refine cx_ofM (by decide) (Nat.le_of_ble_eq_true rfl) (fun p e s m below meth c ls hx hb hr hml hg hown hlocks hin hK hw hl => ?_)
  have hl : lv_has ls 3 [(0, .ref h0), (1, .int p1)] := hl
  have hown : s.vm.findClass cn_A = some m.cls := hown
  have hB0 : aB ≠ h0 := pm_ne f2 f0 (by simp)
  have lp : ∀ (n k : Nat), k + n = 6 → ∀ (fD : Nat → Int32) (Pk : pm_T) (H : Heap) (locs : List Loc) (ls : Array Slot), Pk = pm_up (pm_up P aB (.inl (ac 0, 6, .inl fD))) h0 (.inr (5, [.ref aC, .ref aY, .ref aB, .int cn, .int p1])) → (∀ j, j < k → fD j = fY j) → pm_W z D cl_w Pk s.heap H locs → lv_has ls 3 [(2, .int (nI k)), (0, .ref h0), (1, .int p1)] → W p l e ({ frames := 0, cells := 0, slots := 0, locals := 0 } : Room) s m ([.ref h0, .int p1] : List Value).toArray below meth c H locs 0 0 (MQ below (cx_Q z D (fun v P' => v = none ∧ ∃ fD : Nat → Int32, su_e6 fD fY ∧ P' = pm_up (pm_up P aB (.inl (ac 0, 6, .inl fD))) h0 (.inr (5, [.ref aC, .ref aY, .ref aB, .int cn, .int p1])))) ([.ref h0, .int p1] : List Value).toArray s ({ frames := 0, cells := 0, slots := 0, locals := 0 } : Room).cells ({ frames := 0, cells := 0, slots := 0, locals := 0 } : Room).slots (pm_A z)) (F0 m 7 ls []) := by
    intro n
    induction n with
    | zero =>
      intro k hk fD Pk H locs ls ePk hD hw hl
      have hk : k = 6 := by omega
      subst hk
      have k0 : Pk h0 = some (.inr (5, [.ref aC, .ref aY, .ref aB, .int cn, .int p1])) := by rw [ePk]; exact pm_s
      have k1 : Pk aY = some (.inl (ac 0, 6, .inl fY)) := by rw [ePk, pm_n (pm_ne f1 f0 (by simp)), pm_n hYB]; exact f1
      have k2 : Pk aB = some (.inl (ac 0, 6, .inl fD)) := by rw [ePk, pm_n hB0]; exact pm_s
      refine lv_iload_n hx hb dd_A_keepWay_7 rfl (lv_at hl 0 rfl) ?_
      refine lv_bipush (v := 6) hx hb dd_A_keepWay_8 (by decide) ?_
      refine lv_icmp_ge (tgt := 31) hx hb dd_A_keepWay_10 (by decide) (fun c1 => ?_) (fun c1 => absurd (nI_le (Nat.le_refl 6) (by decide)) c1)
      refine cx_vret hx hb hr hlocks hw dd_A_keepWay_31 (by decide) (by decide) ?_
      exact ⟨rfl, fD, hD, ePk⟩
    | succ n ih =>
      intro k hk fD Pk H locs ls ePk hD hw hl
      have hlt : k < 6 := by omega
      have hcl : (nI k).toNatClampNeg = k := nI_clamp (by omega)
      have k0 : Pk h0 = some (.inr (5, [.ref aC, .ref aY, .ref aB, .int cn, .int p1])) := by rw [ePk]; exact pm_s
      have k1 : Pk aY = some (.inl (ac 0, 6, .inl fY)) := by rw [ePk, pm_n (pm_ne f1 f0 (by simp)), pm_n hYB]; exact f1
      have k2 : Pk aB = some (.inl (ac 0, 6, .inl fD)) := by rw [ePk, pm_n hB0]; exact pm_s
      refine lv_iload_n hx hb dd_A_keepWay_7 rfl (lv_at hl 0 rfl) ?_
      refine lv_bipush (v := 6) hx hb dd_A_keepWay_8 (by decide) ?_
      refine lv_icmp_ge (tgt := 31) hx hb dd_A_keepWay_10 (by decide) (fun c2 => absurd c2 (nI_ge hlt (by decide))) (fun c2 => ?_)
      refine lv_aload_n hx hb dd_A_keepWay_13 rfl (lv_at hl 1 rfl) ?_
      refine pm_get (ci := 5) (C := cn_A) (T := cf_A) (N := 5) (v := .ref aB) hx hb hg gu_A hown hK.2.1 hw k0 rfl 2 (by decide) (hg _ gf_A_21) (fun _ h9 => h9) rfl dd_A_keepWay_14 ?_
      refine lv_iload_n hx hb dd_A_keepWay_17 rfl (lv_at hl 0 rfl) ?_
      refine lv_aload_n hx hb dd_A_keepWay_18 rfl (lv_at hl 1 rfl) ?_
      refine pm_get (ci := 5) (C := cn_A) (T := cf_A) (N := 5) (v := .ref aY) hx hb hg gu_A hown hK.2.1 hw k0 rfl 1 (by decide) (hg _ gf_A_17) (fun _ h9 => h9) rfl dd_A_keepWay_19 ?_
      refine lv_iload_n hx hb dd_A_keepWay_22 rfl (lv_at hl 0 rfl) ?_
      refine pm_iald hx hb hK.2.1 hw 0 k1 rfl (vp_in_nI hlt (by decide)) dd_A_keepWay_23 ?_
      refine lv_topi (fun x3 ex3 => ?_)
      refine pm_iast (x := x3) hx hb hK.2.1 hw 0 k2 rfl (vp_in_nI hlt (by decide)) dd_A_keepWay_24 (fun H locs hw => ?_)
      have hw : pm_W z D cl_w (pm_up Pk aB (.inl (ac 0, 6, .inl (upd fD ((nI k).toNatClampNeg) x3)))) s.heap H _ := hw
      obtain ⟨P4, eP4⟩ : ∃ pmv : pm_T, pmv = pm_up Pk aB (.inl (ac 0, 6, .inl (upd fD ((nI k).toNatClampNeg) x3))) := ⟨_, rfl⟩
      rw [← eP4] at hw
      have f5 : P4 h0 = some (.inr (5, [.ref aC, .ref aY, .ref aB, .int cn, .int p1])) := by rw [eP4, pm_n (pm_ne k0 k2 (by simp))]; exact k0
      have f6 : P4 aY = some (.inl (ac 0, 6, .inl fY)) := by rw [eP4, pm_n hYB]; exact k1
      have f7 : P4 aB = some (.inl (ac 0, 6, .inl (upd fD ((nI k).toNatClampNeg) x3))) := by rw [eP4]; exact pm_s
      obtain ⟨x8, ex8⟩ : ∃ y : Int32, y = (nI k) + 1 := ⟨_, rfl⟩
      refine lv_iinc (v := x8) (lv' := [(2, .int x8), (0, .ref h0), (1, .int p1)]) hx hb dd_A_keepWay_25 hl (k := 0) rfl (by rw [ex8]; rfl) (by decide) rfl (fun ls hl => ?_)
      refine lv_goto (tgt := 7) hx hb dd_A_keepWay_28 (by decide) ?_
      have hi : x8 = nI (k + 1) := by rw [ex8]; exact nI_1 k
      rw [hi] at hl
      refine ih (k + 1) (by omega) (upd fD k (fY k)) P4 H _ ls (by rw [eP4, ePk, ex3, hcl, pm_uc (Ne.symm hB0), pm_uu]) (fun j hj => ?_) hw (lv_sub hl [0, 1, 2] rfl)
      by_cases hjk : j = k
      · rw [hjk, pk_us]
      · rw [pk_un hjk]; exact hD j (by omega)
  refine lv_aload_n hx hb dd_A_keepWay_0 rfl (lv_at hl 0 rfl) ?_
  refine lv_iload_n hx hb dd_A_keepWay_1 rfl (lv_at hl 1 rfl) ?_
  refine pm_put (ci := 5) (v := .int p1) (ty := .int) (C := cn_A) (T := cf_A) (N := 5) hx hb hg gu_A ct_A co_A cm_A hown hK.2.1 hw f0 rfl 4 (by decide) (hg _ gf_A_28) (fun _ h9 => h9) rfl (by decide +kernel) rfl rfl (Nat.le_of_ble_eq_true rfl) dd_A_keepWay_2 (fun H locs hw => ?_)
  have hw : pm_W z D cl_w (pm_up P h0 (.inr (5, [.ref aC, .ref aY, .ref aB, .int cn, .int p1]))) s.heap H _ := hw
  obtain ⟨P9, eP9⟩ : ∃ pmv : pm_T, pmv = pm_up P h0 (.inr (5, [.ref aC, .ref aY, .ref aB, .int cn, .int p1])) := ⟨_, rfl⟩
  rw [← eP9] at hw
  have f10 : P9 aY = some (.inl (ac 0, 6, .inl fY)) := by rw [eP9, pm_n (pm_ne f1 f0 (by simp))]; exact f1
  have f11 : P9 aB = some (.inl (ac 0, 6, .inl fB)) := by rw [eP9, pm_n (pm_ne f2 f0 (by simp))]; exact f2
  have f12 : P9 h0 = some (.inr (5, [.ref aC, .ref aY, .ref aB, .int cn, .int p1])) := by rw [eP9]; exact pm_s
  refine lv_iconst (v := 0) hx hb dd_A_keepWay_5 (by decide) ?_
  refine lv_istore_n (lv' := [(2, .int (0 : Int32)), (0, .ref h0), (1, .int p1)]) hx hb dd_A_keepWay_6 rfl hl (by decide) rfl (fun ls hl => ?_)
  exact lp 6 0 (by decide) fB P9 _ _ ls (by rw [eP9, pm_id f2]) (fun j hj => absurd hj (Nat.not_lt_zero j)) hw (lv_sub hl [0, 1, 2] rfl)
