def su_tn (p : Int32) : Nat := (if 6 < p then 6 else p).toNatClampNeg
theorem su_tn_x {x : Int32} (hx : x ≤ 6) {i : Nat} (hi : i < 2 ^ 31) : x ≤ nI i ↔ x.toNatClampNeg ≤ i := by
  by_cases h0 : x < 0
  · have h1 : x.toNatClampNeg = 0 := by
      have h2 : x.toInt < 0 := by
        have := Int32.lt_iff_toInt_lt.mp h0
        simpa using this
      show x.toInt.toNat = 0
      omega
    rw [h1]
    constructor
    · intro _; exact Nat.zero_le i
    · intro _
      exact Int32.le_trans (Int32.le_of_lt h0) (nI_pos' hi)
  · obtain ⟨j, hj, rfl⟩ := nI_of h0
    rw [nI_clamp hj, nI_leI hj hi]
theorem su_tn_6 (p : Int32) : (if 6 < p then (6 : Int32) else p) ≤ 6 := by
  by_cases h : 6 < p
  · rw [if_pos h]; decide
  · rw [if_neg h]; exact Int32.not_lt.mp h
theorem su_tn_le (p : Int32) : su_tn p ≤ 6 := (su_tn_x (su_tn_6 p) (i := 6) (by decide)).mp (su_tn_6 p)
theorem su_tn_in {p : Int32} (h0 : ¬ p < 0) (h6 : p ≤ 6) : p = nI (su_tn p) ∧ (if 6 < p then (6 : Int32) else p) = p := by
  have h1 : ¬ 6 < p := Int32.not_lt.mpr h6
  unfold su_tn
  rw [if_neg h1]
  obtain ⟨j, hj, rfl⟩ := nI_of h0
  exact ⟨by rw [nI_clamp hj], rfl⟩
theorem su_sl_mem {fH : Nat → Option Nat} {S : Int64} {num : Nat → Int32} {q : Nat} : ∀ {k : Nat}, q ∈ su_sl fH S num k → ∃ j, fH j = some q
  | 0, h => by cases h
  | k + 1, h => by
    rcases hq : fH k with _ | r
    · simp only [su_sl, hq] at h; exact su_sl_mem h
    · simp only [su_sl, hq] at h
      by_cases h1 : su_tb S (num r) = 0
      · rw [if_pos h1] at h; exact su_sl_mem h
      · rw [if_neg h1] at h
        rcases List.mem_append.mp h with h2 | h2
        · exact su_sl_mem h2
        · rw [List.mem_singleton.mp h2]; exact ⟨k, hq⟩
theorem su_gq {L : List Nat} {i : Nat} : L[i]? = if i < L.length then some (L.getD i 0) else none := by
  by_cases h : i < L.length
  · rw [if_pos h, List.getD_eq_getElem?_getD, List.getElem?_eq_getElem h]; rfl
  · rw [if_neg h]; exact List.getElem?_eq_none (by omega)

set_option maxHeartbeats 4000000 in
set_option maxRecDepth 100000 in
theorem c_C_round (l : Launch) (hT : l.stackTraces = false) (z : Nat) (D : va_G) (ac : Nat → ClassId) (sa : Nat → Nat) (P : pm_T) (h0 aH aT aL aK aW : Nat) (nh nt al : Int32) (fH : Nat → Option Nat) (hv tv ov : Nat → Nat → Int32) (aw : Nat → Nat) (ct : Nat → Option Nat) (fw : Nat → Nat → Option Nat) (aC aY aB : Nat) (cn lt : Int32) (fC : Nat → Option Nat) (fY fB : Nat → Int32) (p1 : Int64) (p3 : Int32) (hYB : aY ≠ aB) (hnum : ∀ k q, fH k = some q → hv 0 q = nI k) (fy : hy_W P ac fH hv tv ov aw ct fw) (f0 : P h0 = some (.inr (0, [.ref aH, .ref aT, .ref aL, .ref aK, .ref aW, .int nh, .int nt, .int al]))) (f1 : P aH = some (.inl (ac 3, 40, .inr (.inr (.inr (.inr fH)))))) (f2 : P aW = some (.inr (5, [.ref aC, .ref aY, .ref aB, .int cn, .int lt]))) (f3 : P aC = some (.inl (ac 3, 6, .inr (.inr (.inr (.inr fC)))))) (f4 : P aY = some (.inl (ac 0, 6, .inl fY))) (f5 : P aB = some (.inl (ac 0, 6, .inl fB))) : cx_V l yy_C_round bb_C_round 11 (some .int) ({ frames := 12, cells := 8, slots := 48, locals := 360 } : Room) z D ac sa P [.ref h0, .long p1, .int p3] (fun v P' => su_al [(∀ i, i < (su_tn p3) → ¬ su_kn (su_told p1 (nI i)) fH = none, xn_IAE), (¬ p3 < 0 ∧ p3 ≤ 6, xn_IOB), (¬ su_ss p1 (su_tn p3) = none, xn_IOB)] ∧ ∃ (sv : Int64) (fD : Nat → Option Nat) (fY1 fB1 : Nat → Int32), su_ss p1 (su_tn p3) = some sv ∧ (∀ i, i < 6 → fD i = (su_sl fH sv (hv 0) 40)[i]?) ∧ su_e6 fY1 (su_go (su_sl fH sv (hv 0) 40).length (fun i => hv 0 ((su_sl fH sv (hv 0) 40).getD i 0)) (fun i => hv 1 ((su_sl fH sv (hv 0) 40).getD i 0)) (fun i => hv 2 ((su_sl fH sv (hv 0) 40).getD i 0)) 6 0 0 0 0 0 (fY, fB, 1400001)).1 ∧ su_e6 fB1 (su_go (su_sl fH sv (hv 0) 40).length (fun i => hv 0 ((su_sl fH sv (hv 0) 40).getD i 0)) (fun i => hv 1 ((su_sl fH sv (hv 0) 40).getD i 0)) (fun i => hv 2 ((su_sl fH sv (hv 0) 40).getD i 0)) 6 0 0 0 0 0 (fY, fB, 1400001)).2.1 ∧ v = some (.int (su_go (su_sl fH sv (hv 0) 40).length (fun i => hv 0 ((su_sl fH sv (hv 0) 40).getD i 0)) (fun i => hv 1 ((su_sl fH sv (hv 0) 40).getD i 0)) (fun i => hv 2 ((su_sl fH sv (hv 0) 40).getD i 0)) 6 0 0 0 0 0 (fY, fB, 1400001)).2.2) ∧ P' = pm_up (pm_up (pm_up (pm_up P aC (.inl (ac 3, 6, .inr (.inr (.inr (.inr fD)))))) aY (.inl (ac 0, 6, .inl fY1))) aB (.inl (ac 0, 6, .inl fB1))) aW (.inr (5, [.ref aC, .ref aY, .ref aB, .int (nI (su_sl fH sv (hv 0) 40).length), .int ((su_go (su_sl fH sv (hv 0) 40).length (fun i => hv 0 ((su_sl fH sv (hv 0) 40).getD i 0)) (fun i => hv 1 ((su_sl fH sv (hv 0) 40).getD i 0)) (fun i => hv 2 ((su_sl fH sv (hv 0) 40).getD i 0)) 6 0 0 0 0 0 (fY, fB, 1400001)).2.2)]))) (fun E P' => P' = P ∧ su_xs [(∀ i, i < (su_tn p3) → ¬ su_kn (su_told p1 (nI i)) fH = none, xn_IAE), (¬ p3 < 0 ∧ p3 ≤ 6, xn_IOB), (¬ su_ss p1 (su_tn p3) = none, xn_IOB)] E) := by
  refine cx_ofV (by decide) (Nat.le_of_ble_eq_true rfl) (fun p e s m below meth c ls hx hb hr hml hg hown hlocks hout hK hw hl => ?_)
  have hl : lv_has ls 11 [(0, .ref h0), (1, .long p1), (3, .int p3)] := hl
  have hown : s.vm.findClass cn_C = some m.cls := hown
  have ht6 : (su_tn p3) ≤ 6 := su_tn_le p3
  have nh0aW : h0 ≠ aW := pm_ne f0 f2 (by simp)
  have naHaW : aH ≠ aW := pm_ne f1 f2 (by simp)
  have nh0aC : h0 ≠ aC := pm_ne f0 f3 (by simp)
  have naHaC : aH ≠ aC := pm_ne f1 f3 (by simp)
  have naWaC : aW ≠ aC := pm_ne f2 f3 (by simp)
  have naYaW : aY ≠ aW := pm_ne f4 f2 (by simp)
  have naBaW : aB ≠ aW := pm_ne f5 f2 (by simp)
  have naYaC : aY ≠ aC := pm_ne f4 f3 (by simp)
  have naBaC : aB ≠ aC := pm_ne f5 f3 (by simp)
  have lp2 : su_al [(∀ i, i < (su_tn p3) → ¬ su_kn (su_told p1 (nI i)) fH = none, xn_IAE), (¬ p3 < 0 ∧ p3 ≤ 6, xn_IOB), (¬ su_ss p1 (su_tn p3) = none, xn_IOB)] → ∀ (sv : Int64), su_ss p1 (su_tn p3) = some sv → ∀ (n k : Nat), k + n = 40 → ∀ (fD : Nat → Option Nat) (Pk : pm_T) (H : Heap) (locs : List Loc) (ls : Array Slot), (∀ i, i < 6 → fD i = (su_sl fH sv (hv 0) k)[i]?) → Pk = pm_up (pm_up P aC (.inl (ac 3, 6, .inr (.inr (.inr (.inr fD)))))) aW (.inr (5, [.ref aC, .ref aY, .ref aB, .int (nI (su_sl fH sv (hv 0) k).length), .int lt])) → pm_W z D cl_w Pk s.heap H locs → lv_has ls 11 [(9, .int (nI k)), (8, .int (40 : Int32)), (7, .ref aH), (5, .long sv), (0, .ref h0), (1, .long p1), (3, .int p3)] → W p l e ({ frames := 12, cells := 8, slots := 48, locals := 360 } : Room) s m ([.ref h0, .long p1, .int p3] : List Value).toArray below meth c H locs 7 42 (vx_MQ below (cx_Q z D (fun v P' => su_al [(∀ i, i < (su_tn p3) → ¬ su_kn (su_told p1 (nI i)) fH = none, xn_IAE), (¬ p3 < 0 ∧ p3 ≤ 6, xn_IOB), (¬ su_ss p1 (su_tn p3) = none, xn_IOB)] ∧ ∃ (sv : Int64) (fD : Nat → Option Nat) (fY1 fB1 : Nat → Int32), su_ss p1 (su_tn p3) = some sv ∧ (∀ i, i < 6 → fD i = (su_sl fH sv (hv 0) 40)[i]?) ∧ su_e6 fY1 (su_go (su_sl fH sv (hv 0) 40).length (fun i => hv 0 ((su_sl fH sv (hv 0) 40).getD i 0)) (fun i => hv 1 ((su_sl fH sv (hv 0) 40).getD i 0)) (fun i => hv 2 ((su_sl fH sv (hv 0) 40).getD i 0)) 6 0 0 0 0 0 (fY, fB, 1400001)).1 ∧ su_e6 fB1 (su_go (su_sl fH sv (hv 0) 40).length (fun i => hv 0 ((su_sl fH sv (hv 0) 40).getD i 0)) (fun i => hv 1 ((su_sl fH sv (hv 0) 40).getD i 0)) (fun i => hv 2 ((su_sl fH sv (hv 0) 40).getD i 0)) 6 0 0 0 0 0 (fY, fB, 1400001)).2.1 ∧ v = some (.int (su_go (su_sl fH sv (hv 0) 40).length (fun i => hv 0 ((su_sl fH sv (hv 0) 40).getD i 0)) (fun i => hv 1 ((su_sl fH sv (hv 0) 40).getD i 0)) (fun i => hv 2 ((su_sl fH sv (hv 0) 40).getD i 0)) 6 0 0 0 0 0 (fY, fB, 1400001)).2.2) ∧ P' = pm_up (pm_up (pm_up (pm_up P aC (.inl (ac 3, 6, .inr (.inr (.inr (.inr fD)))))) aY (.inl (ac 0, 6, .inl fY1))) aB (.inl (ac 0, 6, .inl fB1))) aW (.inr (5, [.ref aC, .ref aY, .ref aB, .int (nI (su_sl fH sv (hv 0) 40).length), .int ((su_go (su_sl fH sv (hv 0) 40).length (fun i => hv 0 ((su_sl fH sv (hv 0) 40).getD i 0)) (fun i => hv 1 ((su_sl fH sv (hv 0) 40).getD i 0)) (fun i => hv 2 ((su_sl fH sv (hv 0) 40).getD i 0)) 6 0 0 0 0 0 (fY, fB, 1400001)).2.2)])))) (cx_X z D (fun E P' => P' = P ∧ su_xs [(∀ i, i < (su_tn p3) → ¬ su_kn (su_told p1 (nI i)) fH = none, xn_IAE), (¬ p3 < 0 ∧ p3 ≤ 6, xn_IOB), (¬ su_ss p1 (su_tn p3) = none, xn_IOB)] E)) ([.ref h0, .long p1, .int p3] : List Value).toArray s ({ frames := 12, cells := 8, slots := 48, locals := 360 } : Room).cells ({ frames := 12, cells := 8, slots := 48, locals := 360 } : Room).slots (pm_A z)) (F0 m 84 ls []) := by
    intro hpre sv hsv n
    induction n with
    | zero =>
      intro k hk fD Pk H locs ls hD ePk hw hl
      have hk : k = 40 := by omega
      subst hk
      have k0 : Pk h0 = some (.inr (0, [.ref aH, .ref aT, .ref aL, .ref aK, .ref aW, .int nh, .int nt, .int al])) := by rw [ePk, pm_n nh0aW, pm_n nh0aC]; exact f0
      have k1 : Pk aH = some (.inl (ac 3, 40, .inr (.inr (.inr (.inr fH))))) := by rw [ePk, pm_n naHaW, pm_n naHaC]; exact f1
      have k4 : Pk aY = some (.inl (ac 0, 6, .inl fY)) := by rw [ePk, pm_n naYaW, pm_n naYaC]; exact f4
      have k5 : Pk aB = some (.inl (ac 0, 6, .inl fB)) := by rw [ePk, pm_n naBaW, pm_n naBaC]; exact f5
      have k2 : Pk aW = some (.inr (5, [.ref aC, .ref aY, .ref aB, .int (nI (su_sl fH sv (hv 0) 40).length), .int lt])) := by rw [ePk]; exact pm_s
      have k3 : Pk aC = some (.inl (ac 3, 6, .inr (.inr (.inr (.inr fD))))) := by rw [ePk, pm_n (Ne.symm naWaC)]; exact pm_s
      have gy : hy_W Pk ac fH hv tv ov aw ct fw := by rw [ePk]; exact (fy.up f3 rfl).up (x := .inr (5, [.ref aC, .ref aY, .ref aB, .int cn, .int lt])) (by rw [pm_n naWaC]; exact f2) rfl
      refine lv_iload hx hb dd_C_round_84 (lv_at hl 0 rfl) ?_
      refine lv_iload hx hb dd_C_round_86 (lv_at hl 1 rfl) ?_
      refine lv_icmp_ge (tgt := 133) hx hb dd_C_round_88 (by decide) (fun c61 => ?_) (fun c61 => absurd (nI_le (Nat.le_refl 40) (by decide)) c61)
      refine lv_aload_n hx hb dd_C_round_133 rfl (lv_at hl 4 rfl) ?_
      refine pm_get (ci := 0) (C := cn_C) (T := cf_C) (N := 8) (v := .ref aW) hx hb hg gu_C hown hK.2.1 hw k0 rfl 4 (by decide) (hg _ gf_C_35) (fun _ h9 => h9) rfl dd_C_round_134 ?_
      have hln : (su_sl fH sv (hv 0) 40).length ≤ 6 := Nat.le_trans (su_sl_le ht6 hsv hnum 40 (Nat.le_refl 40)) ht6
      refine cx_after (cx_rV (n := 0) (As := []) (rest := []) ⟨hx, hb, hml, hown, hg⟩ (c_A_leastMetres l z D ac sa Pk aW aC aY aB (su_sl fH sv (hv 0) 40).length lt fD fY fB (fun i => (su_sl fH sv (hv 0) 40).getD i 0) hv aw ct hYB hln (fun i hi => (hD i hi).trans su_gq) (fun i hi => (gy _ _ (su_sl_mem (q := (su_sl fH sv (hv 0) 40).getD i 0) (k := 40) (by rw [List.getD_eq_getElem?_getD, List.getElem?_eq_getElem hi]; exact List.getElem_mem hi)).choose_spec).1) k2 k3 k4 k5) (cx_gv gm_C_216 gi_A_leastMetres gs_A_leastMetres gn_A gc_A_leastMetres) (by decide +kernel) ⟨by decide, by decide⟩ hK hw k2 rfl rfl hl.1 rfl (Nat.le_of_ble_eq_true rfl) dd_C_round_137 ⟨by decide, by decide⟩) hw (fun v9 P9 H locs hp hw => ?_)
      obtain ⟨fY1, fB1, h1, h2, rfl, e9⟩ := hp
      refine W.eq (g2 := F0 m 140 ls [.int ((su_go (su_sl fH sv (hv 0) 40).length (fun i => hv 0 ((su_sl fH sv (hv 0) 40).getD i 0)) (fun i => hv 1 ((su_sl fH sv (hv 0) 40).getD i 0)) (fun i => hv 2 ((su_sl fH sv (hv 0) 40).getD i 0)) 6 0 0 0 0 0 (fY, fB, 1400001)).2.2)]) rfl ?_
      refine vx_ret (cx_iret (v := (su_go (su_sl fH sv (hv 0) 40).length (fun i => hv 0 ((su_sl fH sv (hv 0) 40).getD i 0)) (fun i => hv 1 ((su_sl fH sv (hv 0) 40).getD i 0)) (fun i => hv 2 ((su_sl fH sv (hv 0) 40).getD i 0)) 6 0 0 0 0 0 (fY, fB, 1400001)).2.2) hx hb hr rfl hlocks hw dd_C_round_140 (by decide) (by decide) ?_)
      refine ⟨hpre, sv, fD, fY1, fB1, hsv, hD, h1, h2, rfl, ?_⟩
      rw [e9, ePk, pm_uc (b := aY) (Ne.symm naYaW), pm_uc (b := aB) (Ne.symm naBaW), pm_uu]
    | succ n ih =>
      intro k hk fD Pk H locs ls hD ePk hw hl
      have hlt : k < 40 := by omega
      have hcl : (nI k).toNatClampNeg = k := nI_clamp (by omega)
      have k0 : Pk h0 = some (.inr (0, [.ref aH, .ref aT, .ref aL, .ref aK, .ref aW, .int nh, .int nt, .int al])) := by rw [ePk, pm_n nh0aW, pm_n nh0aC]; exact f0
      have k1 : Pk aH = some (.inl (ac 3, 40, .inr (.inr (.inr (.inr fH))))) := by rw [ePk, pm_n naHaW, pm_n naHaC]; exact f1
      have k4 : Pk aY = some (.inl (ac 0, 6, .inl fY)) := by rw [ePk, pm_n naYaW, pm_n naYaC]; exact f4
      have k5 : Pk aB = some (.inl (ac 0, 6, .inl fB)) := by rw [ePk, pm_n naBaW, pm_n naBaC]; exact f5
      have k2 : Pk aW = some (.inr (5, [.ref aC, .ref aY, .ref aB, .int (nI (su_sl fH sv (hv 0) k).length), .int lt])) := by rw [ePk]; exact pm_s
      have k3 : Pk aC = some (.inl (ac 3, 6, .inr (.inr (.inr (.inr fD))))) := by rw [ePk, pm_n (Ne.symm naWaC)]; exact pm_s
      have gy : hy_W Pk ac fH hv tv ov aw ct fw := by rw [ePk]; exact (fy.up f3 rfl).up (x := .inr (5, [.ref aC, .ref aY, .ref aB, .int cn, .int lt])) (by rw [pm_n naWaC]; exact f2) rfl
      refine lv_iload hx hb dd_C_round_84 (lv_at hl 0 rfl) ?_
      refine lv_iload hx hb dd_C_round_86 (lv_at hl 1 rfl) ?_
      refine lv_icmp_ge (tgt := 133) hx hb dd_C_round_88 (by decide) (fun c62 => absurd c62 (nI_ge hlt (by decide))) (fun c62 => ?_)
      refine lv_aload hx hb dd_C_round_91 (lv_at hl 2 rfl) ?_
      refine lv_iload hx hb dd_C_round_93 (lv_at hl 0 rfl) ?_
      refine pm_aald hx hb hK.2.1 hw 3 k1 rfl (vp_in_nI hlt (by decide)) dd_C_round_95 ?_
      refine W.eq (g2 := F0 m 96 ls [va_rf (fH k)]) (by rw [hcl]) ?_
      rcases hq : fH k with _ | q
      · skip
        refine W.eq (g2 := F0 m 96 ls [.null]) rfl ?_
        refine lv_astoreN (lv' := [(10, .null), (9, .int (nI k)), (8, .int (40 : Int32)), (7, .ref aH), (5, .long sv), (0, .ref h0), (1, .long p1), (3, .int p3)]) hx hb dd_C_round_96 hl (by decide) rfl (fun ls hl => ?_)
        refine lv_aloadN hx hb dd_C_round_98 (lv_at hl 0 rfl) ?_
        refine lv_ifnullN (tgt := 127) hx hb dd_C_round_100 (by decide) ?_
        obtain ⟨x63, ex63⟩ : ∃ y : Int32, y = (nI k) + 1 := ⟨_, rfl⟩
        refine lv_iinc (v := x63) (lv' := [(9, .int x63), (10, .null), (8, .int (40 : Int32)), (7, .ref aH), (5, .long sv), (0, .ref h0), (1, .long p1), (3, .int p3)]) hx hb dd_C_round_127 hl (k := 1) rfl (by rw [ex63]; rfl) (by decide) rfl (fun ls hl => ?_)
        refine lv_goto (tgt := 84) hx hb dd_C_round_130 (by decide) ?_
        have hi7 : x63 = nI (k + 1) := by rw [ex63]; exact nI_1 k
        rw [hi7] at hl
        have hst : su_sl fH sv (hv 0) (k + 1) = su_sl fH sv (hv 0) k := by simp only [su_sl, hq]
        exact ih (k + 1) (by omega) fD Pk H _ ls (by rw [hst]; exact hD) (by rw [hst]; exact ePk) hw (lv_sub hl [0, 2, 3, 4, 5, 6, 7] rfl)
      · skip
        refine W.eq (g2 := F0 m 96 ls [.ref q]) rfl ?_
        obtain ⟨fq, fqw, fo, ft⟩ := gy k q hq
        refine lv_astore (lv' := [(10, .ref q), (9, .int (nI k)), (8, .int (40 : Int32)), (7, .ref aH), (5, .long sv), (0, .ref h0), (1, .long p1), (3, .int p3)]) hx hb dd_C_round_96 hl (by decide) rfl (fun ls hl => ?_)
        refine lv_aload hx hb dd_C_round_98 (lv_at hl 0 rfl) ?_
        refine lv_ifnull hx hb dd_C_round_100 ?_
        refine lv_lload hx hb dd_C_round_103 (lv_at hl 4 rfl) ?_
        refine lv_aload hx hb dd_C_round_105 (lv_at hl 0 rfl) ?_
        refine pm_get (ci := 1) (C := cn_H) (T := cf_H) (N := 11) (v := .int (hv 0 q)) hx hb hg gu_H hown hK.2.1 hw fq rfl 0 (by decide) (hg _ gf_C_177) (fun _ h9 => h9) rfl dd_C_round_107 ?_
        refine lv_lushr hx hb dd_C_round_110 rfl ?_
        refine lv_lconst (v := 1) hx hb dd_C_round_111 (by decide) ?_
        refine lv_land hx hb dd_C_round_112 ?_
        refine lv_lconst (v := 0) hx hb dd_C_round_113 (by decide) ?_
        refine W.lcmp hx hb dd_C_round_114 ?_
        refine lv_if_eq (tgt := 127) hx hb dd_C_round_115 (by decide) (fun c64 => ?_) (fun c64 => ?_)
        · skip
          obtain ⟨x65, ex65⟩ : ∃ y : Int32, y = (nI k) + 1 := ⟨_, rfl⟩
          refine lv_iinc (v := x65) (lv' := [(9, .int x65), (10, .ref q), (8, .int (40 : Int32)), (7, .ref aH), (5, .long sv), (0, .ref h0), (1, .long p1), (3, .int p3)]) hx hb dd_C_round_127 hl (k := 1) rfl (by rw [ex65]; rfl) (by decide) rfl (fun ls hl => ?_)
          refine lv_goto (tgt := 84) hx hb dd_C_round_130 (by decide) ?_
          have hi7 : x65 = nI (k + 1) := by rw [ex65]; exact nI_1 k
          rw [hi7] at hl
          have hst : su_sl fH sv (hv 0) (k + 1) = su_sl fH sv (hv 0) k := by simp only [su_sl, hq]; exact if_pos c64
          exact ih (k + 1) (by omega) fD Pk H _ ls (by rw [hst]; exact hD) (by rw [hst]; exact ePk) hw (lv_sub hl [0, 2, 3, 4, 5, 6, 7] rfl)
        · skip
          refine lv_aload_n hx hb dd_C_round_118 rfl (lv_at hl 5 rfl) ?_
          refine pm_get (ci := 0) (C := cn_C) (T := cf_C) (N := 8) (v := .ref aW) hx hb hg gu_C hown hK.2.1 hw k0 rfl 4 (by decide) (hg _ gf_C_35) (fun _ h9 => h9) rfl dd_C_round_119 ?_
          refine lv_aload hx hb dd_C_round_122 (lv_at hl 0 rfl) ?_
          have hst : su_sl fH sv (hv 0) (k + 1) = su_sl fH sv (hv 0) k ++ [q] := su_sl_step hq c64
          have hl6 : (su_sl fH sv (hv 0) k).length < 6 := by
            have h7 := Nat.le_trans (su_sl_le ht6 hsv hnum (k + 1) hlt) ht6
            rw [hst, List.length_append, List.length_singleton] at h7
            omega
          refine cx_after (cx_rV (n := 1) (As := [.ref q]) (rest := []) ⟨hx, hb, hml, hown, hg⟩ (c_A_choose l z D ac sa Pk aW aC aY aB (su_sl fH sv (hv 0) k).length lt fD q _ hl6 fq k2 k3) (cx_gv gm_C_212 gi_A_choose gs_A_choose gn_A gc_A_choose) (by decide +kernel) ⟨by decide, by decide⟩ hK hw k2 rfl rfl hl.1 rfl (Nat.le_of_ble_eq_true rfl) dd_C_round_124 ⟨by decide, by decide⟩) hw (fun v9 P9 H locs hp hw => ?_)
          obtain ⟨rfl, e9⟩ := hp
          refine W.eq (g2 := F0 m 127 ls []) rfl ?_
          obtain ⟨x66, ex66⟩ : ∃ y : Int32, y = (nI k) + 1 := ⟨_, rfl⟩
          refine lv_iinc (v := x66) (lv' := [(9, .int x66), (10, .ref q), (8, .int (40 : Int32)), (7, .ref aH), (5, .long sv), (0, .ref h0), (1, .long p1), (3, .int p3)]) hx hb dd_C_round_127 hl (k := 1) rfl (by rw [ex66]; rfl) (by decide) rfl (fun ls hl => ?_)
          refine lv_goto (tgt := 84) hx hb dd_C_round_130 (by decide) ?_
          have hi7 : x66 = nI (k + 1) := by rw [ex66]; exact nI_1 k
          rw [hi7] at hl
          refine ih (k + 1) (by omega) (va_up fD (su_sl fH sv (hv 0) k).length (some q)) P9 H _ ls (fun i hi => ?_) ?_ hw (lv_sub hl [0, 2, 3, 4, 5, 6, 7] rfl)
          · rw [hst]
            by_cases hil : i = (su_sl fH sv (hv 0) k).length
            · rw [hil]; simp only [va_up, if_true]; rw [List.getElem?_append_right (Nat.le_refl _), Nat.sub_self]; rfl
            · simp only [va_up, if_neg hil]
              rw [hD i hi]
              rcases Nat.lt_or_ge i (su_sl fH sv (hv 0) k).length with h8 | h8
              · rw [List.getElem?_append_left h8]
              · rw [List.getElem?_eq_none h8, List.getElem?_eq_none (by rw [List.length_append, List.length_singleton]; omega)]
          · rw [e9, ePk, hst, List.length_append, List.length_singleton, nI_succ, pm_uc (b := aC) naWaC, pm_uu, pm_uu]
  have aft : (∀ i, i < (su_tn p3) → ¬ su_kn (su_told p1 (nI i)) fH = none) → ∀ (x4 : Int32) (H : Heap) (locs : List Loc) (ls : Array Slot), x4 = (if 6 < p3 then 6 else p3) → pm_W z D cl_w P s.heap H locs → lv_has ls 11 [(4, .int x4), (0, .ref h0), (1, .long p1), (3, .int p3)] → W p l e ({ frames := 12, cells := 8, slots := 48, locals := 360 } : Room) s m ([.ref h0, .long p1, .int p3] : List Value).toArray below meth c H locs 6 36 (vx_MQ below (cx_Q z D (fun v P' => su_al [(∀ i, i < (su_tn p3) → ¬ su_kn (su_told p1 (nI i)) fH = none, xn_IAE), (¬ p3 < 0 ∧ p3 ≤ 6, xn_IOB), (¬ su_ss p1 (su_tn p3) = none, xn_IOB)] ∧ ∃ (sv : Int64) (fD : Nat → Option Nat) (fY1 fB1 : Nat → Int32), su_ss p1 (su_tn p3) = some sv ∧ (∀ i, i < 6 → fD i = (su_sl fH sv (hv 0) 40)[i]?) ∧ su_e6 fY1 (su_go (su_sl fH sv (hv 0) 40).length (fun i => hv 0 ((su_sl fH sv (hv 0) 40).getD i 0)) (fun i => hv 1 ((su_sl fH sv (hv 0) 40).getD i 0)) (fun i => hv 2 ((su_sl fH sv (hv 0) 40).getD i 0)) 6 0 0 0 0 0 (fY, fB, 1400001)).1 ∧ su_e6 fB1 (su_go (su_sl fH sv (hv 0) 40).length (fun i => hv 0 ((su_sl fH sv (hv 0) 40).getD i 0)) (fun i => hv 1 ((su_sl fH sv (hv 0) 40).getD i 0)) (fun i => hv 2 ((su_sl fH sv (hv 0) 40).getD i 0)) 6 0 0 0 0 0 (fY, fB, 1400001)).2.1 ∧ v = some (.int (su_go (su_sl fH sv (hv 0) 40).length (fun i => hv 0 ((su_sl fH sv (hv 0) 40).getD i 0)) (fun i => hv 1 ((su_sl fH sv (hv 0) 40).getD i 0)) (fun i => hv 2 ((su_sl fH sv (hv 0) 40).getD i 0)) 6 0 0 0 0 0 (fY, fB, 1400001)).2.2) ∧ P' = pm_up (pm_up (pm_up (pm_up P aC (.inl (ac 3, 6, .inr (.inr (.inr (.inr fD)))))) aY (.inl (ac 0, 6, .inl fY1))) aB (.inl (ac 0, 6, .inl fB1))) aW (.inr (5, [.ref aC, .ref aY, .ref aB, .int (nI (su_sl fH sv (hv 0) 40).length), .int ((su_go (su_sl fH sv (hv 0) 40).length (fun i => hv 0 ((su_sl fH sv (hv 0) 40).getD i 0)) (fun i => hv 1 ((su_sl fH sv (hv 0) 40).getD i 0)) (fun i => hv 2 ((su_sl fH sv (hv 0) 40).getD i 0)) 6 0 0 0 0 0 (fY, fB, 1400001)).2.2)])))) (cx_X z D (fun E P' => P' = P ∧ su_xs [(∀ i, i < (su_tn p3) → ¬ su_kn (su_told p1 (nI i)) fH = none, xn_IAE), (¬ p3 < 0 ∧ p3 ≤ 6, xn_IOB), (¬ su_ss p1 (su_tn p3) = none, xn_IOB)] E)) ([.ref h0, .long p1, .int p3] : List Value).toArray s ({ frames := 12, cells := 8, slots := 48, locals := 360 } : Room).cells ({ frames := 12, cells := 8, slots := 48, locals := 360 } : Room).slots (pm_A z)) (F0 m 35 ls []) := by
    intro hkn x4 H locs ls ex4 hw hl
    refine lv_iload_n hx hb dd_C_round_35 rfl (lv_at hl 3 rfl) ?_
    refine lv_if_lt (tgt := 45) hx hb dd_C_round_36 (by decide) (fun c67 => ?_) (fun c67 => ?_)
    · skip
      refine cx_thrS (E := xn_IOB) (text := "no such number of hydrants") hx hb hT (by rw [hml]; exact hl.1.symm) hown hg hK hw (by decide +kernel) gk_C_132 gn_IndexOutOfBoundsException xg_IOB xb_IOB xo_IOB (by decide +kernel) dd_C_round_45 dd_C_round_48 dd_C_round_49 dd_C_round_51 dd_C_round_54 hout ⟨by decide, Nat.le_of_ble_eq_true rfl, by decide, by decide⟩ hlocks (by decide) (by decide) ?_
      exact ⟨rfl, Or.inr ⟨hkn, Or.inl ⟨fun h8 => h8.1 c67, rfl⟩⟩⟩
    · skip
      refine lv_iload_n hx hb dd_C_round_39 rfl (lv_at hl 3 rfl) ?_
      refine lv_bipush (v := 6) hx hb dd_C_round_40 (by decide) ?_
      refine lv_icmp_le (tgt := 55) hx hb dd_C_round_42 (by decide) (fun c68 => ?_) (fun c68 => ?_)
      · skip
        obtain ⟨hp3, hx3⟩ := su_tn_in c67 c68
        have hx4 : x4 = nI (su_tn p3) := by rw [ex4, hx3]; exact hp3
        rw [hx4] at hl
        refine lv_lload_n hx hb dd_C_round_55 rfl (lv_at hl 2 rfl) ?_
        refine lv_iload hx hb dd_C_round_56 (lv_at hl 0 rfl) ?_
        refine cx_afterX (cx_rSX (n := 2) (As := [.long p1, .int (nI (su_tn p3))]) (rest := []) ⟨hx, hb, hml, hown, hg⟩ (c_C_setOfStops l hT z D ac sa P (su_tn p3) p1 ht6) (cx_gs gm_C_207 gt_C_setOfStops gn_C gc_C_setOfStops) (by decide +kernel) ⟨by decide, by decide⟩ hK hw rfl hl.1 rfl (Nat.le_of_ble_eq_true rfl) dd_C_round_58 ⟨by decide, by decide⟩) hw (fun E9 ce9 q9 P9 H locs hp hw hce hcv hcl => ?_) (fun v9 P9 H locs hp hw => ?_)
        · skip
          obtain ⟨rfl, e9, hn9⟩ := hp
          rw [e9] at hw
          clear e9 P9
          refine cx_pass hout hlocks hce hcv hcl hw ?_ (by decide) (by decide)
          exact ⟨rfl, Or.inr ⟨hkn, Or.inr ⟨⟨c67, c68⟩, Or.inl ⟨fun h8 => h8 hn9, rfl⟩⟩⟩⟩
        · skip
          obtain ⟨e9, sv, hsv, rfl⟩ := hp
          rw [e9] at hw
          clear e9 P9
          refine W.eq (g2 := F0 m 61 ls [.long sv]) rfl ?_
          refine lv_lstore (lv' := [(5, .long sv), (4, .int (nI (su_tn p3))), (0, .ref h0), (1, .long p1), (3, .int p3)]) hx hb dd_C_round_61 hl (by decide) rfl (fun ls hl => ?_)
          refine lv_aload_n hx hb dd_C_round_63 rfl (lv_at hl 2 rfl) ?_
          refine pm_get (ci := 0) (C := cn_C) (T := cf_C) (N := 8) (v := .ref aW) hx hb hg gu_C hown hK.2.1 hw f0 rfl 4 (by decide) (hg _ gf_C_35) (fun _ h9 => h9) rfl dd_C_round_64 ?_
          refine cx_after (cx_rV (n := 0) (As := []) (rest := []) ⟨hx, hb, hml, hown, hg⟩ (c_A_clear l z D ac sa P aW aC aY aB cn lt fC f2 f3) (cx_gv gm_C_211 gi_A_clear gs_A_clear gn_A gc_A_clear) (by decide +kernel) ⟨by decide, by decide⟩ hK hw f2 rfl rfl hl.1 rfl (Nat.le_of_ble_eq_true rfl) dd_C_round_67 ⟨by decide, by decide⟩) hw (fun v9 P9 H locs hp hw => ?_)
          obtain ⟨rfl, fD, hD, e9⟩ := hp
          refine W.eq (g2 := F0 m 70 ls []) rfl ?_
          have k0 : P9 h0 = some (.inr (0, [.ref aH, .ref aT, .ref aL, .ref aK, .ref aW, .int nh, .int nt, .int al])) := by rw [e9, pm_n nh0aW, pm_n nh0aC]; exact f0
          have k1 : P9 aH = some (.inl (ac 3, 40, .inr (.inr (.inr (.inr fH))))) := by rw [e9, pm_n naHaW, pm_n naHaC]; exact f1
          refine lv_aload_n hx hb dd_C_round_70 rfl (lv_at hl 2 rfl) ?_
          refine pm_get (ci := 0) (C := cn_C) (T := cf_C) (N := 8) (v := .ref aH) hx hb hg gu_C hown hK.2.1 hw k0 rfl 0 (by decide) (hg _ gf_C_11) (fun _ h9 => h9) rfl dd_C_round_71 ?_
          refine lv_astore (lv' := [(7, .ref aH), (5, .long sv), (4, .int (nI (su_tn p3))), (0, .ref h0), (1, .long p1), (3, .int p3)]) hx hb dd_C_round_74 hl (by decide) rfl (fun ls hl => ?_)
          refine lv_aload hx hb dd_C_round_76 (lv_at hl 0 rfl) ?_
          refine pm_alen (v := 40) hx hb hK.2.1 hw 3 k1 rfl rfl dd_C_round_78 ?_
          refine lv_istore (lv' := [(8, .int (40 : Int32)), (7, .ref aH), (5, .long sv), (4, .int (nI (su_tn p3))), (0, .ref h0), (1, .long p1), (3, .int p3)]) hx hb dd_C_round_79 hl (by decide) rfl (fun ls hl => ?_)
          refine lv_iconst (v := 0) hx hb dd_C_round_81 (by decide) ?_
          refine lv_istore (lv' := [(9, .int (0 : Int32)), (8, .int (40 : Int32)), (7, .ref aH), (5, .long sv), (4, .int (nI (su_tn p3))), (0, .ref h0), (1, .long p1), (3, .int p3)]) hx hb dd_C_round_82 hl (by decide) rfl (fun ls hl => ?_)
          exact lp2 ⟨hkn, ⟨c67, c68⟩, su_ne hsv, trivial⟩ sv hsv 40 0 (by decide) fD P9 _ _ ls (fun i hi => (hD i hi).trans rfl) e9 hw (lv_sub hl [0, 1, 2, 3, 5, 6, 7] rfl)
      · skip
        refine cx_thrS (E := xn_IOB) (text := "no such number of hydrants") hx hb hT (by rw [hml]; exact hl.1.symm) hown hg hK hw (by decide +kernel) gk_C_132 gn_IndexOutOfBoundsException xg_IOB xb_IOB xo_IOB (by decide +kernel) dd_C_round_45 dd_C_round_48 dd_C_round_49 dd_C_round_51 dd_C_round_54 hout ⟨by decide, Nat.le_of_ble_eq_true rfl, by decide, by decide⟩ hlocks (by decide) (by decide) ?_
        exact ⟨rfl, Or.inr ⟨hkn, Or.inl ⟨fun h8 => c68 h8.2, rfl⟩⟩⟩
  have lp1 : ∀ (x4 : Int32), x4 = (if 6 < p3 then 6 else p3) → ∀ (n i : Nat), i + n = (su_tn p3) → (∀ j, j < i → ¬ su_kn (su_told p1 (nI j)) fH = none) → ∀ (H : Heap) (locs : List Loc) (ls : Array Slot), pm_W z D cl_w P s.heap H locs → lv_has ls 11 [(5, .int (nI i)), (4, .int x4), (0, .ref h0), (1, .long p1), (3, .int p3)] → W p l e ({ frames := 12, cells := 8, slots := 48, locals := 360 } : Room) s m ([.ref h0, .long p1, .int p3] : List Value).toArray below meth c H locs i (6 * i) (vx_MQ below (cx_Q z D (fun v P' => su_al [(∀ i, i < (su_tn p3) → ¬ su_kn (su_told p1 (nI i)) fH = none, xn_IAE), (¬ p3 < 0 ∧ p3 ≤ 6, xn_IOB), (¬ su_ss p1 (su_tn p3) = none, xn_IOB)] ∧ ∃ (sv : Int64) (fD : Nat → Option Nat) (fY1 fB1 : Nat → Int32), su_ss p1 (su_tn p3) = some sv ∧ (∀ i, i < 6 → fD i = (su_sl fH sv (hv 0) 40)[i]?) ∧ su_e6 fY1 (su_go (su_sl fH sv (hv 0) 40).length (fun i => hv 0 ((su_sl fH sv (hv 0) 40).getD i 0)) (fun i => hv 1 ((su_sl fH sv (hv 0) 40).getD i 0)) (fun i => hv 2 ((su_sl fH sv (hv 0) 40).getD i 0)) 6 0 0 0 0 0 (fY, fB, 1400001)).1 ∧ su_e6 fB1 (su_go (su_sl fH sv (hv 0) 40).length (fun i => hv 0 ((su_sl fH sv (hv 0) 40).getD i 0)) (fun i => hv 1 ((su_sl fH sv (hv 0) 40).getD i 0)) (fun i => hv 2 ((su_sl fH sv (hv 0) 40).getD i 0)) 6 0 0 0 0 0 (fY, fB, 1400001)).2.1 ∧ v = some (.int (su_go (su_sl fH sv (hv 0) 40).length (fun i => hv 0 ((su_sl fH sv (hv 0) 40).getD i 0)) (fun i => hv 1 ((su_sl fH sv (hv 0) 40).getD i 0)) (fun i => hv 2 ((su_sl fH sv (hv 0) 40).getD i 0)) 6 0 0 0 0 0 (fY, fB, 1400001)).2.2) ∧ P' = pm_up (pm_up (pm_up (pm_up P aC (.inl (ac 3, 6, .inr (.inr (.inr (.inr fD)))))) aY (.inl (ac 0, 6, .inl fY1))) aB (.inl (ac 0, 6, .inl fB1))) aW (.inr (5, [.ref aC, .ref aY, .ref aB, .int (nI (su_sl fH sv (hv 0) 40).length), .int ((su_go (su_sl fH sv (hv 0) 40).length (fun i => hv 0 ((su_sl fH sv (hv 0) 40).getD i 0)) (fun i => hv 1 ((su_sl fH sv (hv 0) 40).getD i 0)) (fun i => hv 2 ((su_sl fH sv (hv 0) 40).getD i 0)) 6 0 0 0 0 0 (fY, fB, 1400001)).2.2)])))) (cx_X z D (fun E P' => P' = P ∧ su_xs [(∀ i, i < (su_tn p3) → ¬ su_kn (su_told p1 (nI i)) fH = none, xn_IAE), (¬ p3 < 0 ∧ p3 ≤ 6, xn_IOB), (¬ su_ss p1 (su_tn p3) = none, xn_IOB)] E)) ([.ref h0, .long p1, .int p3] : List Value).toArray s ({ frames := 12, cells := 8, slots := 48, locals := 360 } : Room).cells ({ frames := 12, cells := 8, slots := 48, locals := 360 } : Room).slots (pm_A z)) (F0 m 11 ls []) := by
    intro x4 ex4 n
    have hxt : ∀ i : Nat, i < 7 → (x4 ≤ nI i ↔ (su_tn p3) ≤ i) := fun i hi => by rw [ex4]; exact su_tn_x (su_tn_6 p3) (by omega)
    induction n with
    | zero =>
      intro i hi hkn H locs ls hw hl
      have hi : i = (su_tn p3) := by omega
      refine lv_iload hx hb dd_C_round_11 (lv_at hl 0 rfl) ?_
      refine lv_iload hx hb dd_C_round_13 (lv_at hl 1 rfl) ?_
      refine lv_icmp_ge (tgt := 35) hx hb dd_C_round_15 (by decide) (fun c69 => ?_) (fun c69 => absurd ((hxt i (by omega)).mpr (by omega)) c69)
      rw [hi] at hkn
      refine W.widen (k := 6) (n := 36) (by omega) (by omega) ?_
      exact aft hkn x4 _ _ ls ex4 hw (lv_sub hl [1, 2, 3, 4] rfl)
    | succ n ih =>
      intro i hi hkn H locs ls hw hl
      have hlt : i < (su_tn p3) := by omega
      refine lv_iload hx hb dd_C_round_11 (lv_at hl 0 rfl) ?_
      refine lv_iload hx hb dd_C_round_13 (lv_at hl 1 rfl) ?_
      refine lv_icmp_ge (tgt := 35) hx hb dd_C_round_15 (by decide) (fun c70 => absurd c70 (fun h8 => absurd ((hxt i (by omega)).mp h8) (by omega))) (fun c70 => ?_)
      refine lv_aload_n hx hb dd_C_round_18 rfl (lv_at hl 2 rfl) ?_
      refine lv_lload_n hx hb dd_C_round_19 rfl (lv_at hl 3 rfl) ?_
      refine lv_iload hx hb dd_C_round_20 (lv_at hl 0 rfl) ?_
      refine cx_after (cx_rS (n := 2) (As := [.long p1, .int (nI i)]) (rest := [.ref h0]) ⟨hx, hb, hml, hown, hg⟩ (c_C_toldStop l z D ac sa P p1 (nI i)) (cx_gs gm_C_201 gt_C_toldStop gn_C gc_C_toldStop) (by decide +kernel) ⟨by decide, by decide⟩ hK hw rfl hl.1 rfl (Nat.le_of_ble_eq_true rfl) dd_C_round_22 ⟨by dsimp only; omega, by dsimp only; omega⟩) hw (fun v9 P9 H locs hp hw => ?_)
      obtain ⟨rfl, e9⟩ := hp
      rw [e9] at hw
      clear e9 P9
      refine W.eq (g2 := F0 m 25 ls [.int (su_told p1 (nI i)), .ref h0]) rfl ?_
      refine cx_afterX (cx_rVX (n := 1) (As := [.int (su_told p1 (nI i))]) (rest := []) ⟨hx, hb, hml, hown, hg⟩ (c_C_known l hT z D ac sa P h0 aH aT aL aK aW nh nt al fH (su_told p1 (nI i)) f0 f1) (cx_gv gm_C_76 gi_C_known gs_C_known gn_C gc_C_known) (by decide +kernel) ⟨by decide, by decide⟩ hK hw f0 rfl rfl hl.1 rfl (Nat.le_of_ble_eq_true rfl) dd_C_round_25 ⟨by dsimp only; omega, by dsimp only; omega⟩) hw (fun E9 ce9 q9 P9 H locs hp hw hce hcv hcl => ?_) (fun v9 P9 H locs hp hw => ?_)
      · skip
        obtain ⟨rfl, e9, hn9⟩ := hp
        rw [e9] at hw
        clear e9 P9
        refine cx_pass hout hlocks hce hcv hcl hw ?_ (by dsimp only; omega) (by dsimp only; omega)
        exact ⟨rfl, Or.inl ⟨fun h8 => h8 i hlt hn9, rfl⟩⟩
      · skip
        obtain ⟨q, rfl, e9, hkq⟩ := hp
        rw [e9] at hw
        clear e9 P9
        refine W.eq (g2 := F0 m 28 ls [.ref q]) rfl ?_
        refine lv_pop hx hb dd_C_round_28 rfl ?_
        obtain ⟨x71, ex71⟩ : ∃ y : Int32, y = (nI i) + 1 := ⟨_, rfl⟩
        refine lv_iinc (v := x71) (lv' := [(5, .int x71), (4, .int x4), (0, .ref h0), (1, .long p1), (3, .int p3)]) hx hb dd_C_round_29 hl (k := 0) rfl (by rw [ex71]; rfl) (by decide) rfl (fun ls hl => ?_)
        refine lv_goto (tgt := 11) hx hb dd_C_round_32 (by decide) ?_
        have hi7 : x71 = nI (i + 1) := by rw [ex71]; exact nI_1 i
        rw [hi7] at hl
        refine W.widen (k := i + 1) (n := 6 * (i + 1)) (by dsimp only; omega) (by dsimp only; omega) ?_
        refine ih (i + 1) (by omega) (fun j hj => ?_) H _ ls hw (lv_sub hl [0, 1, 2, 3, 4] rfl)
        by_cases hji : j = i
        · rw [hji]; exact su_ne hkq
        · exact hkn j (by omega)
  refine lv_iload_n hx hb dd_C_round_0 rfl (lv_at hl 2 rfl) ?_
  refine lv_bipush (v := 6) hx hb dd_C_round_1 (by decide) ?_
  refine va_mmin hx hb (by rw [hml]; exact hl.1.symm) hown (hg _ gm_C_129) (hg _ gt_N_min) (hg _ gn_Math) (hg _ gc_N_min) (Nat.le_of_ble_eq_true rfl) (Nat.le_of_ble_eq_true rfl) (Nat.le_of_ble_eq_true rfl) (Nat.le_of_ble_eq_true rfl) dd_C_round_3 ?_
  refine lv_topi (fun x72 ex72 => ?_)
  refine lv_istore (lv' := [(4, .int x72), (0, .ref h0), (1, .long p1), (3, .int p3)]) hx hb dd_C_round_6 hl (by decide) rfl (fun ls hl => ?_)
  refine lv_iconst (v := 0) hx hb dd_C_round_8 (by decide) ?_
  refine lv_istore (lv' := [(5, .int (0 : Int32)), (4, .int x72), (0, .ref h0), (1, .long p1), (3, .int p3)]) hx hb dd_C_round_9 hl (by decide) rfl (fun ls hl => ?_)
  exact lp1 x72 ex72 (su_tn p3) 0 (Nat.zero_add _) (fun j hj => absurd hj (Nat.not_lt_zero j)) _ _ ls hw (lv_sub hl [0, 1, 2, 3, 4] rfl)
