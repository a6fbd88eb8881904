def su_bt (h : Int64) (i : Nat) : Int64 := (1 : Int64) <<< ((su_told h (nI i)).toInt64 &&& 63)
def su_ss (h : Int64) : Nat → Option Int64
  | 0 => some 0
  | i + 1 => match su_ss h i with
    | none => none
    | some s => if lg_cmp (s &&& su_bt h i) 0 = 0 then some (s ||| su_bt h i) else none
theorem su_ss_none {h : Int64} {i : Nat} (hi : su_ss h i = none) : ∀ n, su_ss h (i + n) = none
  | 0 => hi
  | n + 1 => by
    show (match su_ss h (i + n) with | none => none | some s => _) = none
    rw [su_ss_none hi n]

set_option maxHeartbeats 4000000 in
set_option maxRecDepth 100000 in
theorem c_A_leastMetres (l : Launch) (z : Nat) (D : va_G) (ac : Nat → ClassId) (sa : Nat → Nat) (P : pm_T) (h0 aC aY aB nc : Nat) (lt : Int32) (fC : Nat → Option Nat) (fY fB : Nat → Int32) (cq : Nat → Nat) (hv : Nat → Nat → Int32) (aw : Nat → Nat) (ct : Nat → Option Nat) (hYB : aY ≠ aB) (hnc : nc ≤ 6) (hC : ∀ i, i < 6 → fC i = if i < nc then some (cq i) else none) (fh : ∀ i, i < nc → P (cq i) = some (.inr (1, [.int (hv 0 (cq i)), .int (hv 1 (cq i)), .int (hv 2 (cq i)), .int (hv 3 (cq i)), .int (hv 4 (cq i)), .ref (aw (cq i)), .int (hv 6 (cq i)), .int (hv 7 (cq i)), .int (hv 8 (cq i)), .int (hv 9 (cq i)), va_rf (ct (cq i))]))) (f0 : P h0 = some (.inr (5, [.ref aC, .ref aY, .ref aB, .int (nI nc), .int lt]))) (f1 : P aC = some (.inl (ac 3, 6, .inr (.inr (.inr (.inr fC)))))) (f2 : P aY = some (.inl (ac 0, 6, .inl fY))) (f3 : P aB = some (.inl (ac 0, 6, .inl fB))) : cx_M l yy_A_leastMetres bb_A_leastMetres 1 (some .int) ({ frames := 11, cells := 0, slots := 0, locals := 296 } : Room) z D ac sa P [.ref h0] (fun v P' => ∃ fY1 fB1 : Nat → Int32, su_e6 fY1 (su_go nc (fun i => hv 0 (cq i)) (fun i => hv 1 (cq i)) (fun i => hv 2 (cq i)) 6 0 0 0 0 0 (fY, fB, 1400001)).1 ∧ su_e6 fB1 (su_go nc (fun i => hv 0 (cq i)) (fun i => hv 1 (cq i)) (fun i => hv 2 (cq i)) 6 0 0 0 0 0 (fY, fB, 1400001)).2.1 ∧ v = some (.int (su_go nc (fun i => hv 0 (cq i)) (fun i => hv 1 (cq i)) (fun i => hv 2 (cq i)) 6 0 0 0 0 0 (fY, fB, 1400001)).2.2) ∧ P' = pm_up (pm_up (pm_up P aY (.inl (ac 0, 6, .inl fY1))) aB (.inl (ac 0, 6, .inl fB1))) h0 (.inr (5, [.ref aC, .ref aY, .ref aB, .int (nI nc), .int ((su_go nc (fun i => hv 0 (cq i)) (fun i => hv 1 (cq i)) (fun i => hv 2 (cq i)) 6 0 0 0 0 0 (fY, fB, 1400001)).2.2)]))) := by
  refine cx_ofM (by decide) (Nat.le_of_ble_eq_true rfl) (fun p e s m below meth c ls hx hb hr hml hg hown hlocks hin hK hw hl => ?_)
  have hl : lv_has ls 1 [(0, .ref h0)] := hl
  have hown : s.vm.findClass cn_A = some m.cls := hown
  refine lv_aload_n hx hb dd_A_leastMetres_0 rfl (lv_at hl 0 rfl) ?_
  refine lv_ldc (v := (1400001)) hx hb hown (hg _ gq_A_31) dd_A_leastMetres_1 ?_
  refine pm_put (ci := 5) (v := .int (1400001 : Int32)) (ty := .int) (C := cn_A) (T := cf_A) (N := 5) hx hb hg gu_A ct_A co_A cm_A hown hK.2.1 hw f0 rfl 4 (by decide) (hg _ gf_A_28) (fun _ h9 => h9) rfl (by decide +kernel) rfl rfl (Nat.le_of_ble_eq_true rfl) dd_A_leastMetres_3 (fun H locs hw => ?_)
  have hw : pm_W z D cl_w (pm_up P h0 (.inr (5, [.ref aC, .ref aY, .ref aB, .int (nI nc), .int (1400001 : Int32)]))) s.heap H _ := hw
  obtain ⟨P51, eP51⟩ : ∃ pmv : pm_T, pmv = pm_up P h0 (.inr (5, [.ref aC, .ref aY, .ref aB, .int (nI nc), .int (1400001 : Int32)])) := ⟨_, rfl⟩
  rw [← eP51] at hw
  have f52 : P51 aC = some (.inl (ac 3, 6, .inr (.inr (.inr (.inr fC))))) := by rw [eP51, pm_n (pm_ne f1 f0 (by simp))]; exact f1
  have f53 : P51 aY = some (.inl (ac 0, 6, .inl fY)) := by rw [eP51, pm_n (pm_ne f2 f0 (by simp))]; exact f2
  have f54 : P51 aB = some (.inl (ac 0, 6, .inl fB)) := by rw [eP51, pm_n (pm_ne f3 f0 (by simp))]; exact f3
  have f55 : P51 h0 = some (.inr (5, [.ref aC, .ref aY, .ref aB, .int (nI nc), .int (1400001 : Int32)])) := by rw [eP51]; exact pm_s
  refine lv_aload_n hx hb dd_A_leastMetres_6 rfl (lv_at hl 0 rfl) ?_
  refine lv_iconst (v := 0) hx hb dd_A_leastMetres_7 (by decide) ?_
  refine lv_iconst (v := 0) hx hb dd_A_leastMetres_8 (by decide) ?_
  refine lv_iconst (v := 0) hx hb dd_A_leastMetres_9 (by decide) ?_
  refine lv_iconst (v := 0) hx hb dd_A_leastMetres_10 (by decide) ?_
  refine lv_iconst (v := 0) hx hb dd_A_leastMetres_11 (by decide) ?_
  refine W.eq (g2 := F0 m 12 ls [.int (0 : Int32), .int (0 : Int32), .int (0 : Int32), .int (0 : Int32), .int (nI 0), .ref h0]) (by rw [nI_0]) ?_
  have fhX : ∀ j, j < nc → P51 (cq j) = some (.inr (1, [.int (hv 0 (cq j)), .int (hv 1 (cq j)), .int (hv 2 (cq j)), .int (hv 3 (cq j)), .int (hv 4 (cq j)), .ref (aw (cq j)), .int (hv 6 (cq j)), .int (hv 7 (cq j)), .int (hv 8 (cq j)), .int (hv 9 (cq j)), va_rf (ct (cq j))])) := fun j hj => by rw [eP51, pm_n (pm_ne (fh j hj) f0 (by simp))]; exact fh j hj
  refine cx_after (cx_rV (n := 5) (As := [.int (nI 0), .int (0 : Int32), .int (0 : Int32), .int (0 : Int32), .int (0 : Int32)]) (rest := []) ⟨hx, hb, hml, hown, hg⟩ (c_A_goOn l z D ac sa h0 aC aY aB nc fC cq hv aw ct hYB hnc hC 6 0 (by decide) P51 0 0 0 0 fY fB fY fB 1400001 (fun _ _ => rfl) (fun _ _ => rfl) f55 f52 f53 f54 fhX) (cx_gv gm_A_32 gi_A_goOn gs_A_goOn gn_A gc_A_goOn) (by decide +kernel) ⟨by decide, by decide⟩ hK hw f55 rfl rfl hl.1 rfl (Nat.le_of_ble_eq_true rfl) dd_A_leastMetres_12 ⟨by decide, by decide⟩) hw (fun v9 P9 H locs hp hw => ?_)
  obtain ⟨rfl, fY2, fB2, h1, h2, e9⟩ := hp
  refine W.eq (g2 := F0 m 15 ls []) rfl ?_
  have k9 : P9 h0 = some (.inr (5, [.ref aC, .ref aY, .ref aB, .int (nI nc), .int ((su_go nc (fun i => hv 0 (cq i)) (fun i => hv 1 (cq i)) (fun i => hv 2 (cq i)) 6 0 0 0 0 0 (fY, fB, 1400001)).2.2)])) := by rw [e9]; exact pm_s
  refine lv_aload_n hx hb dd_A_leastMetres_15 rfl (lv_at hl 0 rfl) ?_
  refine pm_get (ci := 5) (C := cn_A) (T := cf_A) (N := 5) (v := .int ((su_go nc (fun i => hv 0 (cq i)) (fun i => hv 1 (cq i)) (fun i => hv 2 (cq i)) 6 0 0 0 0 0 (fY, fB, 1400001)).2.2)) hx hb hg gu_A hown hK.2.1 hw k9 rfl 4 (by decide) (hg _ gf_A_28) (fun _ h9 => h9) rfl dd_A_leastMetres_16 ?_
  refine cx_iret (v := (su_go nc (fun i => hv 0 (cq i)) (fun i => hv 1 (cq i)) (fun i => hv 2 (cq i)) 6 0 0 0 0 0 (fY, fB, 1400001)).2.2) hx hb hr rfl hlocks hw dd_A_leastMetres_19 (by decide) (by decide) ?_
  exact ⟨fY2, fB2, h1, h2, rfl, by rw [e9, eP51, pm_uc (b := aY) (pm_ne f0 f2 (by simp)), pm_uc (b := aB) (pm_ne f0 f3 (by simp)), pm_uu]⟩

set_option maxHeartbeats 4000000 in
set_option maxRecDepth 100000 in
theorem c_C_setOfStops (l : Launch) (hT : l.stackTraces = false) (z : Nat) (D : va_G) (ac : Nat → ClassId) (sa : Nat → Nat) (P : pm_T) (t : Nat) (p0 : Int64) (ht : t ≤ 6)  : cx_V l yy_C_setOfStops bb_C_setOfStops 8 (some .long) ({ frames := 6, cells := 1, slots := 6, locals := 90 } : Room) z D ac sa P [.long p0, .int (nI t)] (fun v P' => P' = P ∧ ∃ sv : Int64, su_ss p0 t = some sv ∧ v = some (.long sv)) (fun E P' => E = xn_IOB ∧ P' = P ∧ su_ss p0 t = none) := by
  refine cx_ofV (by decide) (Nat.le_of_ble_eq_true rfl) (fun p e s m below meth c ls hx hb hr hml hg hown hlocks hout hK hw hl => ?_)
  have hl : lv_has ls 8 [(0, .long p0), (2, .int (nI t))] := hl
  have hown : s.vm.findClass cn_C = some m.cls := hown
  have lp : ∀ (n i : Nat), i + n = t → ∀ (sv : Int64) (H : Heap) (locs : List Loc) (ls : Array Slot), su_ss p0 i = some sv → pm_W z D cl_w P s.heap H locs → lv_has ls 8 [(5, .int (nI i)), (3, .long sv), (0, .long p0), (2, .int (nI t))] → W p l e ({ frames := 6, cells := 1, slots := 6, locals := 90 } : Room) s m ([.long p0, .int (nI t)] : List Value).toArray below meth c H locs 0 0 (vx_MQ below (cx_Q z D (fun v P' => P' = P ∧ ∃ sv : Int64, su_ss p0 t = some sv ∧ v = some (.long sv))) (cx_X z D (fun E P' => E = xn_IOB ∧ P' = P ∧ su_ss p0 t = none)) ([.long p0, .int (nI t)] : List Value).toArray s ({ frames := 6, cells := 1, slots := 6, locals := 90 } : Room).cells ({ frames := 6, cells := 1, slots := 6, locals := 90 } : Room).slots (pm_A z)) (F0 m 5 ls []) := by
    intro n
    induction n with
    | zero =>
      intro i hi sv H locs ls hsv hw hl
      have hi : i = t := by omega
      subst hi
      refine lv_iload hx hb dd_C_setOfStops_5 (lv_at hl 0 rfl) ?_
      refine lv_iload_n hx hb dd_C_setOfStops_7 rfl (lv_at hl 3 rfl) ?_
      refine lv_icmp_ge (tgt := 52) hx hb dd_C_setOfStops_8 (by decide) (fun c1 => ?_) (fun c1 => absurd (nI_le (Nat.le_refl _) (by omega)) c1)
      refine lv_lload_n hx hb dd_C_setOfStops_52 rfl (lv_at hl 1 rfl) ?_
      refine vx_ret (cx_lret (v := sv) hx hb hr hlocks hw dd_C_setOfStops_53 (by decide) (by decide) ?_)
      exact ⟨rfl, sv, hsv, rfl⟩
    | succ n ih =>
      intro i hi sv H locs ls hsv hw hl
      have hlt : i < t := by omega
      refine lv_iload hx hb dd_C_setOfStops_5 (lv_at hl 0 rfl) ?_
      refine lv_iload_n hx hb dd_C_setOfStops_7 rfl (lv_at hl 3 rfl) ?_
      refine lv_icmp_ge (tgt := 52) hx hb dd_C_setOfStops_8 (by decide) (fun c2 => absurd c2 (nI_ge hlt (by omega))) (fun c2 => ?_)
      refine lv_lconst (v := 1) hx hb dd_C_setOfStops_11 (by decide) ?_
      refine lv_lload_n hx hb dd_C_setOfStops_12 rfl (lv_at hl 2 rfl) ?_
      refine lv_iload hx hb dd_C_setOfStops_13 (lv_at hl 0 rfl) ?_
      refine cx_after (cx_rS (n := 2) (As := [.long p0, .int (nI i)]) (rest := [.long (1 : Int64)]) ⟨hx, hb, hml, hown, hg⟩ (c_C_toldStop l z D ac sa P p0 (nI i)) (cx_gs gm_C_201 gt_C_toldStop gn_C gc_C_toldStop) (by decide +kernel) ⟨by decide, by decide⟩ hK hw rfl hl.1 rfl (Nat.le_of_ble_eq_true rfl) dd_C_setOfStops_15 ⟨by decide, by decide⟩) hw (fun v9 P9 H locs hp hw => ?_)
      obtain ⟨rfl, e9⟩ := hp
      rw [e9] at hw
      clear e9 P9
      refine W.eq (g2 := F0 m 18 ls [.int (su_told p0 (nI i)), .long (1 : Int64)]) rfl ?_
      refine lv_lshl hx hb dd_C_setOfStops_18 rfl ?_
      refine lv_topl (fun x3 ex3 => ?_)
      refine lv_lstore (lv' := [(6, .long x3), (5, .int (nI i)), (3, .long sv), (0, .long p0), (2, .int (nI t))]) hx hb dd_C_setOfStops_19 hl (by decide) rfl (fun ls hl => ?_)
      refine lv_lload_n hx hb dd_C_setOfStops_21 rfl (lv_at hl 2 rfl) ?_
      refine lv_lload hx hb dd_C_setOfStops_22 (lv_at hl 0 rfl) ?_
      refine lv_land hx hb dd_C_setOfStops_24 ?_
      refine lv_lconst (v := 0) hx hb dd_C_setOfStops_25 (by decide) ?_
      refine W.lcmp hx hb dd_C_setOfStops_26 ?_
      refine lv_if_eq (tgt := 41) hx hb dd_C_setOfStops_27 (by decide) (fun c4 => ?_) (fun c4 => ?_)
      · skip
        refine lv_lload_n hx hb dd_C_setOfStops_41 rfl (lv_at hl 2 rfl) ?_
        refine lv_lload hx hb dd_C_setOfStops_42 (lv_at hl 0 rfl) ?_
        refine lv_lor hx hb dd_C_setOfStops_44 ?_
        refine lv_topl (fun x5 ex5 => ?_)
        refine lv_lstore_n (lv' := [(3, .long x5), (6, .long x3), (5, .int (nI i)), (0, .long p0), (2, .int (nI t))]) hx hb dd_C_setOfStops_45 rfl hl (by decide) rfl (fun ls hl => ?_)
        obtain ⟨x6, ex6⟩ : ∃ y : Int32, y = (nI i) + 1 := ⟨_, rfl⟩
        refine lv_iinc (v := x6) (lv' := [(5, .int x6), (3, .long x5), (6, .long x3), (0, .long p0), (2, .int (nI t))]) hx hb dd_C_setOfStops_46 hl (k := 2) rfl (by rw [ex6]; rfl) (by decide) rfl (fun ls hl => ?_)
        refine lv_goto (tgt := 5) hx hb dd_C_setOfStops_49 (by decide) ?_
        have hi7 : x6 = nI (i + 1) := by rw [ex6]; exact nI_1 i
        rw [hi7] at hl
        have hb9 : x3 = su_bt p0 i := ex3
        rw [hb9] at c4 ex5
        exact ih (i + 1) (by omega) x5 H _ ls (by simp only [su_ss, hsv]; rw [ex5]; exact if_pos c4) hw (lv_sub hl [0, 1, 3, 4] rfl)
      · skip
        refine cx_thrSW (E := xn_IOB) (text := "a hydrant is told twice") hx hb hT (by rw [hml]; exact hl.1.symm) hown hg hK hw (by decide +kernel) gk_C_132 gn_IndexOutOfBoundsException xg_IOB xb_IOB xo_IOB (by decide +kernel) dd_C_setOfStops_30 dd_C_setOfStops_33 dd_C_setOfStops_34 dd_C_setOfStops_37 dd_C_setOfStops_40 hout ⟨by decide, Nat.le_of_ble_eq_true rfl, by decide, by decide⟩ hlocks (by decide) (by decide) ?_
        have hb9 : x3 = su_bt p0 i := ex3
        rw [hb9] at c4
        have hno : su_ss p0 (i + 1) = none := by simp only [su_ss, hsv]; exact if_neg c4
        refine ⟨rfl, rfl, ?_⟩
        have h7 := su_ss_none hno (t - (i + 1))
        rw [show i + 1 + (t - (i + 1)) = t by omega] at h7
        exact h7
  refine lv_lconst (v := 0) hx hb dd_C_setOfStops_0 (by decide) ?_
  refine lv_lstore_n (lv' := [(3, .long (0 : Int64)), (0, .long p0), (2, .int (nI t))]) hx hb dd_C_setOfStops_1 rfl hl (by decide) rfl (fun ls hl => ?_)
  refine lv_iconst (v := 0) hx hb dd_C_setOfStops_2 (by decide) ?_
  refine lv_istore (lv' := [(5, .int (0 : Int32)), (3, .long (0 : Int64)), (0, .long p0), (2, .int (nI t))]) hx hb dd_C_setOfStops_3 hl (by decide) rfl (fun ls hl => ?_)
  exact lp t 0 (Nat.zero_add t) 0 _ _ ls rfl hw (lv_sub hl [0, 1, 2, 3] rfl)
