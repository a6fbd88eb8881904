def su_hs (d : Int32) : Prop := ¬ d < 0 ∧ d ≤ 200000
def su_ds (d : Int32) : Prop := ¬ d < 0 ∧ d ≤ 9999
def su_all (lm : Nat → Int32) (sm : Nat → Int32) : Nat → Int32
  | 0 => 0
  | k + 1 => su_all lm sm k + (if lm k < sm k then lm k else sm k)

set_option maxHeartbeats 4000000 in
set_option maxRecDepth 100000 in
theorem c_C_near (l : Launch) (hT : l.stackTraces = false) (z : Nat) (D : va_G) (ac : Nat → ClassId) (sa : Nat → Nat) (P : pm_T) (h0 aH aT aL aK aW : Nat) (nh nt al : Int32) (ak : Nat) (ks : Int32) (kf : Nat → Int32) (fH : Nat → Option Nat) (hv tv ov : Nat → Nat → Int32) (aw : Nat → Nat) (ct : Nat → Option Nat) (fw : Nat → Nat → Option Nat) (p1 p2 p3 p4 : Int32) (fy : hy_W P ac fH hv tv ov aw ct fw) (f0 : P h0 = some (.inr (0, [.ref aH, .ref aT, .ref aL, .ref aK, .ref aW, .int nh, .int nt, .int al]))) (f1 : P aH = some (.inl (ac 3, 40, .inr (.inr (.inr (.inr fH)))))) (f2 : P aK = some (.inr (4, [.ref ak, .int ks]))) (f3 : P ak = some (.inl (ac 0, 40, .inl kf))) : cx_V l yy_C_near bb_C_near 9 (some .int) ({ frames := 7, cells := 3, slots := 18, locals := 111 } : Room) z D ac sa P [.ref h0, .int p1, .int p2, .int p3, .int p4] (fun v P' => (su_pl p1 p2 ∧ su_day p3 ∧ su_nn p4) ∧ ∃ kg : Nat → Int32, su_row kg (su_nk fH (fun q => su_us (hv 7 q) (hv 4 q) (hv 8 q) al p3 (ov 0) (ov 1) (fw q)) (fun q => su_hose (hv 1 q) (hv 2 q) p1 p2 * 40 + hv 0 q) 40) ∧ v = some (.int (su_num kg (nI (su_nk fH (fun q => su_us (hv 7 q) (hv 4 q) (hv 8 q) al p3 (ov 0) (ov 1) (fw q)) (fun q => su_hose (hv 1 q) (hv 2 q) p1 p2 * 40 + hv 0 q) 40).length) p4)) ∧ P' = pm_up (pm_up P ak (.inl (ac 0, 40, .inl kg))) aK (.inr (4, [.ref ak, .int (nI (su_nk fH (fun q => su_us (hv 7 q) (hv 4 q) (hv 8 q) al p3 (ov 0) (ov 1) (fw q)) (fun q => su_hose (hv 1 q) (hv 2 q) p1 p2 * 40 + hv 0 q) 40).length)]))) (fun E P' => E = xn_IOB ∧ P' = P ∧ ¬ (su_pl p1 p2 ∧ su_day p3 ∧ su_nn p4)) := by
  refine cx_ofV (by decide) (Nat.le_of_ble_eq_true rfl) (fun p e s m below meth c ls hx hb hr hml hg hown hlocks hout hK hw hl => ?_)
  have hl : lv_has ls 9 [(0, .ref h0), (1, .int p1), (2, .int p2), (3, .int p3), (4, .int p4)] := hl
  have hown : s.vm.findClass cn_C = some m.cls := hown
  have lp : (su_pl p1 p2 ∧ su_day p3 ∧ su_nn p4) → ∀ (n k : Nat), k + n = 40 → ∀ (kg : Nat → Int32) (Pk : pm_T) (H : Heap) (locs : List Loc) (ls : Array Slot), Pk = pm_up (pm_up P ak (.inl (ac 0, 40, .inl kg))) aK (.inr (4, [.ref ak, .int (nI (su_nk fH (fun q => su_us (hv 7 q) (hv 4 q) (hv 8 q) al p3 (ov 0) (ov 1) (fw q)) (fun q => su_hose (hv 1 q) (hv 2 q) p1 p2 * 40 + hv 0 q) k).length)])) → su_row kg (su_nk fH (fun q => su_us (hv 7 q) (hv 4 q) (hv 8 q) al p3 (ov 0) (ov 1) (fw q)) (fun q => su_hose (hv 1 q) (hv 2 q) p1 p2 * 40 + hv 0 q) k) → pm_W z D cl_w Pk s.heap H locs → lv_has ls 9 [(7, .int (nI k)), (6, .int (40 : Int32)), (5, .ref aH), (0, .ref h0), (1, .int p1), (2, .int p2), (3, .int p3), (4, .int p4)] → W p l e ({ frames := 7, cells := 3, slots := 18, locals := 111 } : Room) s m ([.ref h0, .int p1, .int p2, .int p3, .int p4] : List Value).toArray below meth c H locs 3 18 (vx_MQ below (cx_Q z D (fun v P' => (su_pl p1 p2 ∧ su_day p3 ∧ su_nn p4) ∧ ∃ kg : Nat → Int32, su_row kg (su_nk fH (fun q => su_us (hv 7 q) (hv 4 q) (hv 8 q) al p3 (ov 0) (ov 1) (fw q)) (fun q => su_hose (hv 1 q) (hv 2 q) p1 p2 * 40 + hv 0 q) 40) ∧ v = some (.int (su_num kg (nI (su_nk fH (fun q => su_us (hv 7 q) (hv 4 q) (hv 8 q) al p3 (ov 0) (ov 1) (fw q)) (fun q => su_hose (hv 1 q) (hv 2 q) p1 p2 * 40 + hv 0 q) 40).length) p4)) ∧ P' = pm_up (pm_up P ak (.inl (ac 0, 40, .inl kg))) aK (.inr (4, [.ref ak, .int (nI (su_nk fH (fun q => su_us (hv 7 q) (hv 4 q) (hv 8 q) al p3 (ov 0) (ov 1) (fw q)) (fun q => su_hose (hv 1 q) (hv 2 q) p1 p2 * 40 + hv 0 q) 40).length)])))) (cx_X z D (fun E P' => E = xn_IOB ∧ P' = P ∧ ¬ (su_pl p1 p2 ∧ su_day p3 ∧ su_nn p4))) ([.ref h0, .int p1, .int p2, .int p3, .int p4] : List Value).toArray s ({ frames := 7, cells := 3, slots := 18, locals := 111 } : Room).cells ({ frames := 7, cells := 3, slots := 18, locals := 111 } : Room).slots (pm_A z)) (F0 m 35 ls []) := by
    intro hpre n
    induction n with
    | zero =>
      intro k hk kg Pk H locs ls ePk hrow hw hl
      have hk : k = 40 := by omega
      subst hk
      have nK : aK ≠ ak := pm_ne f2 f3 (by simp)
      have g0 : Pk h0 = some (.inr (0, [.ref aH, .ref aT, .ref aL, .ref aK, .ref aW, .int nh, .int nt, .int al])) := by rw [ePk, pm_n (pm_ne f0 f2 (by simp)), pm_n (pm_ne f0 f3 (by simp))]; exact f0
      have g1 : Pk aH = some (.inl (ac 3, 40, .inr (.inr (.inr (.inr fH))))) := by rw [ePk, pm_n (pm_ne f1 f2 (by simp)), pm_n (pm_ne f1 f3 (by simp))]; exact f1
      have g2 : Pk aK = some (.inr (4, [.ref ak, .int (nI (su_nk fH (fun q => su_us (hv 7 q) (hv 4 q) (hv 8 q) al p3 (ov 0) (ov 1) (fw q)) (fun q => su_hose (hv 1 q) (hv 2 q) p1 p2 * 40 + hv 0 q) 40).length)])) := by rw [ePk]; exact pm_s
      have g3 : Pk ak = some (.inl (ac 0, 40, .inl kg)) := by rw [ePk, pm_n (Ne.symm nK)]; exact pm_s
      have gy : hy_W Pk ac fH hv tv ov aw ct fw := by rw [ePk]; exact (fy.up f3 rfl).up (x := .inr (4, [.ref ak, .int ks])) (by rw [pm_n nK]; exact f2) rfl
      refine lv_iload hx hb dd_C_near_35 (lv_at hl 0 rfl) ?_
      refine lv_iload hx hb dd_C_near_37 (lv_at hl 1 rfl) ?_
      refine lv_icmp_ge (tgt := 92) hx hb dd_C_near_39 (by decide) (fun c1 => ?_) (fun c1 => absurd (nI_le (Nat.le_refl 40) (by decide)) c1)
      refine lv_aload_n hx hb dd_C_near_92 rfl (lv_at hl 3 rfl) ?_
      refine pm_get (ci := 0) (C := cn_C) (T := cf_C) (N := 8) (v := .ref aK) hx hb hg gu_C hown hK.2.1 hw g0 rfl 3 (by decide) (hg _ gf_C_28) (fun _ h9 => h9) rfl dd_C_near_93 ?_
      refine lv_iload hx hb dd_C_near_96 (lv_at hl 7 rfl) ?_
      refine cx_after (cx_rV (n := 1) (As := [.int p4]) (rest := []) ⟨hx, hb, hml, hown, hg⟩ (c_K_numberAt l z D ac sa Pk aK ak (nI (su_nk fH (fun q => su_us (hv 7 q) (hv 4 q) (hv 8 q) al p3 (ov 0) (ov 1) (fw q)) (fun q => su_hose (hv 1 q) (hv 2 q) p1 p2 * 40 + hv 0 q) 40).length) kg p4 g2 g3) (cx_gv gm_C_183 gi_K_numberAt gs_K_numberAt gn_K gc_K_numberAt) (by decide +kernel) ⟨by decide, by decide⟩ hK hw g2 rfl rfl hl.1 rfl (Nat.le_of_ble_eq_true rfl) dd_C_near_98 ⟨by decide, by decide⟩) hw (fun v9 P9 H locs hp hw => ?_)
      obtain ⟨rfl, e9⟩ := hp
      rw [e9] at hw
      clear e9 P9
      refine W.eq (g2 := F0 m 101 ls [.int (su_num kg (nI (su_nk fH (fun q => su_us (hv 7 q) (hv 4 q) (hv 8 q) al p3 (ov 0) (ov 1) (fw q)) (fun q => su_hose (hv 1 q) (hv 2 q) p1 p2 * 40 + hv 0 q) 40).length) p4)]) rfl ?_
      refine vx_ret (cx_iret (v := (su_num kg (nI (su_nk fH (fun q => su_us (hv 7 q) (hv 4 q) (hv 8 q) al p3 (ov 0) (ov 1) (fw q)) (fun q => su_hose (hv 1 q) (hv 2 q) p1 p2 * 40 + hv 0 q) 40).length) p4)) hx hb hr rfl hlocks hw dd_C_near_101 (by decide) (by decide) ?_)
      exact ⟨hpre, kg, hrow, rfl, ePk⟩
    | succ n ih =>
      intro k hk kg Pk H locs ls ePk hrow hw hl
      have hlt : k < 40 := by omega
      have hcl : (nI k).toNatClampNeg = k := nI_clamp (by omega)
      have nK : aK ≠ ak := pm_ne f2 f3 (by simp)
      have g0 : Pk h0 = some (.inr (0, [.ref aH, .ref aT, .ref aL, .ref aK, .ref aW, .int nh, .int nt, .int al])) := by rw [ePk, pm_n (pm_ne f0 f2 (by simp)), pm_n (pm_ne f0 f3 (by simp))]; exact f0
      have g1 : Pk aH = some (.inl (ac 3, 40, .inr (.inr (.inr (.inr fH))))) := by rw [ePk, pm_n (pm_ne f1 f2 (by simp)), pm_n (pm_ne f1 f3 (by simp))]; exact f1
      have g2 : Pk aK = some (.inr (4, [.ref ak, .int (nI (su_nk fH (fun q => su_us (hv 7 q) (hv 4 q) (hv 8 q) al p3 (ov 0) (ov 1) (fw q)) (fun q => su_hose (hv 1 q) (hv 2 q) p1 p2 * 40 + hv 0 q) k).length)])) := by rw [ePk]; exact pm_s
      have g3 : Pk ak = some (.inl (ac 0, 40, .inl kg)) := by rw [ePk, pm_n (Ne.symm nK)]; exact pm_s
      have gy : hy_W Pk ac fH hv tv ov aw ct fw := by rw [ePk]; exact (fy.up f3 rfl).up (x := .inr (4, [.ref ak, .int ks])) (by rw [pm_n nK]; exact f2) rfl
      refine lv_iload hx hb dd_C_near_35 (lv_at hl 0 rfl) ?_
      refine lv_iload hx hb dd_C_near_37 (lv_at hl 1 rfl) ?_
      refine lv_icmp_ge (tgt := 92) hx hb dd_C_near_39 (by decide) (fun c2 => absurd c2 (nI_ge hlt (by decide))) (fun c2 => ?_)
      refine lv_aload hx hb dd_C_near_42 (lv_at hl 2 rfl) ?_
      refine lv_iload hx hb dd_C_near_44 (lv_at hl 0 rfl) ?_
      refine pm_aald hx hb hK.2.1 hw 3 g1 rfl (vp_in_nI hlt (by decide)) dd_C_near_46 ?_
      refine W.eq (g2 := F0 m 47 ls [va_rf (fH k)]) (by rw [hcl]) ?_
      rcases hq : fH k with _ | q
      · skip
        refine W.eq (g2 := F0 m 47 ls [.null]) rfl ?_
        refine lv_astoreN (lv' := [(8, .null), (7, .int (nI k)), (6, .int (40 : Int32)), (5, .ref aH), (0, .ref h0), (1, .int p1), (2, .int p2), (3, .int p3), (4, .int p4)]) hx hb dd_C_near_47 hl (by decide) rfl (fun ls hl => ?_)
        refine lv_aloadN hx hb dd_C_near_49 (lv_at hl 0 rfl) ?_
        refine lv_ifnullN (tgt := 86) hx hb dd_C_near_51 (by decide) ?_
        obtain ⟨x3, ex3⟩ : ∃ y : Int32, y = (nI k) + 1 := ⟨_, rfl⟩
        refine lv_iinc (v := x3) (lv' := [(7, .int x3), (8, .null), (6, .int (40 : Int32)), (5, .ref aH), (0, .ref h0), (1, .int p1), (2, .int p2), (3, .int p3), (4, .int p4)]) hx hb dd_C_near_86 hl (k := 1) rfl (by rw [ex3]; rfl) (by decide) rfl (fun ls hl => ?_)
        refine lv_goto (tgt := 35) hx hb dd_C_near_89 (by decide) ?_
        have hi : x3 = nI (k + 1) := by rw [ex3]; exact nI_1 k
        rw [hi] at hl
        have hL : su_nk fH (fun q => su_us (hv 7 q) (hv 4 q) (hv 8 q) al p3 (ov 0) (ov 1) (fw q)) (fun q => su_hose (hv 1 q) (hv 2 q) p1 p2 * 40 + hv 0 q) (k + 1) = su_nk fH (fun q => su_us (hv 7 q) (hv 4 q) (hv 8 q) al p3 (ov 0) (ov 1) (fw q)) (fun q => su_hose (hv 1 q) (hv 2 q) p1 p2 * 40 + hv 0 q) k := by simp only [su_nk, hq]
        exact ih (k + 1) (by omega) kg Pk H _ ls (by rw [hL]; exact ePk) (by rw [hL]; exact hrow) hw (lv_sub hl [0, 2, 3, 4, 5, 6, 7, 8] rfl)
      · skip
        refine W.eq (g2 := F0 m 47 ls [.ref q]) rfl ?_
        obtain ⟨fq, fqw, fo, ft⟩ := gy k q hq
        refine lv_astore (lv' := [(8, .ref q), (7, .int (nI k)), (6, .int (40 : Int32)), (5, .ref aH), (0, .ref h0), (1, .int p1), (2, .int p2), (3, .int p3), (4, .int p4)]) hx hb dd_C_near_47 hl (by decide) rfl (fun ls hl => ?_)
        refine lv_aload hx hb dd_C_near_49 (lv_at hl 0 rfl) ?_
        refine lv_ifnull hx hb dd_C_near_51 ?_
        refine lv_aload hx hb dd_C_near_54 (lv_at hl 0 rfl) ?_
        refine lv_iload_n hx hb dd_C_near_56 rfl (lv_at hl 7 rfl) ?_
        refine lv_aload_n hx hb dd_C_near_57 rfl (lv_at hl 4 rfl) ?_
        refine pm_get (ci := 0) (C := cn_C) (T := cf_C) (N := 8) (v := .int al) hx hb hg gu_C hown hK.2.1 hw g0 rfl 7 (by decide) (hg _ gf_C_46) (fun _ h9 => h9) rfl dd_C_near_58 ?_
        refine cx_after (cx_rV (n := 2) (As := [.int p3, .int al]) (rest := []) ⟨hx, hb, hml, hown, hg⟩ (c_H_isUsable l z D ac sa Pk q (aw q) (hv 0 q) (hv 1 q) (hv 2 q) (hv 3 q) (hv 4 q) (hv 6 q) (hv 7 q) (hv 8 q) (hv 9 q) (ct q)  (ov 0) (ov 1) (fw q) p3 al fo fq fqw) (cx_gv gm_C_164 gi_H_isUsable gs_H_isUsable gn_H gc_H_isUsable) (by decide +kernel) ⟨by decide, by decide⟩ hK hw fq rfl rfl hl.1 rfl (Nat.le_of_ble_eq_true rfl) dd_C_near_61 ⟨by decide, by decide⟩) hw (fun v9 P9 H locs hp hw => ?_)
        obtain ⟨rfl, e9⟩ := hp
        rw [e9] at hw
        clear e9 P9
        refine W.eq (g2 := F0 m 64 ls [.int (su_us (hv 7 q) (hv 4 q) (hv 8 q) al p3 (ov 0) (ov 1) (fw q))]) rfl ?_
        refine lv_if_eq (tgt := 86) hx hb dd_C_near_64 (by decide) (fun c4 => ?_) (fun c4 => ?_)
        · skip
          obtain ⟨x5, ex5⟩ : ∃ y : Int32, y = (nI k) + 1 := ⟨_, rfl⟩
          refine lv_iinc (v := x5) (lv' := [(7, .int x5), (8, .ref q), (6, .int (40 : Int32)), (5, .ref aH), (0, .ref h0), (1, .int p1), (2, .int p2), (3, .int p3), (4, .int p4)]) hx hb dd_C_near_86 hl (k := 1) rfl (by rw [ex5]; rfl) (by decide) rfl (fun ls hl => ?_)
          refine lv_goto (tgt := 35) hx hb dd_C_near_89 (by decide) ?_
          have hi : x5 = nI (k + 1) := by rw [ex5]; exact nI_1 k
          rw [hi] at hl
          have hL : su_nk fH (fun q => su_us (hv 7 q) (hv 4 q) (hv 8 q) al p3 (ov 0) (ov 1) (fw q)) (fun q => su_hose (hv 1 q) (hv 2 q) p1 p2 * 40 + hv 0 q) (k + 1) = su_nk fH (fun q => su_us (hv 7 q) (hv 4 q) (hv 8 q) al p3 (ov 0) (ov 1) (fw q)) (fun q => su_hose (hv 1 q) (hv 2 q) p1 p2 * 40 + hv 0 q) k := by simp only [su_nk, hq]; exact if_pos c4
          exact ih (k + 1) (by omega) kg Pk H _ ls (by rw [hL]; exact ePk) (by rw [hL]; exact hrow) hw (lv_sub hl [0, 2, 3, 4, 5, 6, 7, 8] rfl)
        · skip
          refine lv_aload_n hx hb dd_C_near_67 rfl (lv_at hl 4 rfl) ?_
          refine pm_get (ci := 0) (C := cn_C) (T := cf_C) (N := 8) (v := .ref aK) hx hb hg gu_C hown hK.2.1 hw g0 rfl 3 (by decide) (hg _ gf_C_28) (fun _ h9 => h9) rfl dd_C_near_68 ?_
          refine lv_aload hx hb dd_C_near_71 (lv_at hl 0 rfl) ?_
          refine lv_iload_n hx hb dd_C_near_73 rfl (lv_at hl 5 rfl) ?_
          refine lv_iload_n hx hb dd_C_near_74 rfl (lv_at hl 6 rfl) ?_
          refine cx_after (cx_rV (n := 2) (As := [.int p1, .int p2]) (rest := [.ref aK]) ⟨hx, hb, hml, hown, hg⟩ (c_H_hoseFrom l z D ac sa Pk q (aw q) (hv 0 q) (hv 1 q) (hv 2 q) (hv 3 q) (hv 4 q) (hv 6 q) (hv 7 q) (hv 8 q) (hv 9 q) (ct q) p1 p2 fq) (cx_gv gm_C_174 gi_H_hoseFrom gs_H_hoseFrom gn_H gc_H_hoseFrom) (by decide +kernel) ⟨by decide, by decide⟩ hK hw fq rfl rfl hl.1 rfl (Nat.le_of_ble_eq_true rfl) dd_C_near_75 ⟨by decide, by decide⟩) hw (fun v9 P9 H locs hp hw => ?_)
          obtain ⟨rfl, e9⟩ := hp
          rw [e9] at hw
          clear e9 P9
          refine W.eq (g2 := F0 m 78 ls [.int (su_hose (hv 1 q) (hv 2 q) p1 p2), .ref aK]) rfl ?_
          refine lv_aload hx hb dd_C_near_78 (lv_at hl 0 rfl) ?_
          refine pm_get (ci := 1) (C := cn_H) (T := cf_H) (N := 11) (v := .int (hv 0 q)) hx hb hg gu_H hown hK.2.1 hw fq rfl 0 (by decide) (hg _ gf_C_177) (fun _ h9 => h9) rfl dd_C_near_80 ?_
          refine cx_after (cx_rV (n := 2) (As := [.int (su_hose (hv 1 q) (hv 2 q) p1 p2), .int (hv 0 q)]) (rest := []) ⟨hx, hb, hml, hown, hg⟩ (c_K_insert l z D ac sa Pk aK ak (su_nk fH (fun q => su_us (hv 7 q) (hv 4 q) (hv 8 q) al p3 (ov 0) (ov 1) (fw q)) (fun q => su_hose (hv 1 q) (hv 2 q) p1 p2 * 40 + hv 0 q) k).length kg (su_hose (hv 1 q) (hv 2 q) p1 p2) (hv 0 q) (Nat.lt_of_le_of_lt (su_nk_len _ _ _ k) hlt) g2 g3) (cx_gv gm_C_180 gi_K_insert gs_K_insert gn_K gc_K_insert) (by decide +kernel) ⟨by decide, by decide⟩ hK hw g2 rfl rfl hl.1 rfl (Nat.le_of_ble_eq_true rfl) dd_C_near_83 ⟨by decide, by decide⟩) hw (fun v9 P9 H locs hp hw => ?_)
          obtain ⟨rfl, a9, kg9, hi9, e9⟩ := hp
          refine W.eq (g2 := F0 m 86 ls []) rfl ?_
          obtain ⟨x6, ex6⟩ : ∃ y : Int32, y = (nI k) + 1 := ⟨_, rfl⟩
          refine lv_iinc (v := x6) (lv' := [(7, .int x6), (8, .ref q), (6, .int (40 : Int32)), (5, .ref aH), (0, .ref h0), (1, .int p1), (2, .int p2), (3, .int p3), (4, .int p4)]) hx hb dd_C_near_86 hl (k := 1) rfl (by rw [ex6]; rfl) (by decide) rfl (fun ls hl => ?_)
          refine lv_goto (tgt := 35) hx hb dd_C_near_89 (by decide) ?_
          have hi : x6 = nI (k + 1) := by rw [ex6]; exact nI_1 k
          rw [hi] at hl
          have hL : su_nk fH (fun q => su_us (hv 7 q) (hv 4 q) (hv 8 q) al p3 (ov 0) (ov 1) (fw q)) (fun q => su_hose (hv 1 q) (hv 2 q) p1 p2 * 40 + hv 0 q) (k + 1) = su_insl ((fun q => su_hose (hv 1 q) (hv 2 q) p1 p2 * 40 + hv 0 q) q) (su_nk fH (fun q => su_us (hv 7 q) (hv 4 q) (hv 8 q) al p3 (ov 0) (ov 1) (fw q)) (fun q => su_hose (hv 1 q) (hv 2 q) p1 p2 * 40 + hv 0 q) k) := by simp only [su_nk, hq]; exact if_neg c4
          have hLn : (su_nk fH (fun q => su_us (hv 7 q) (hv 4 q) (hv 8 q) al p3 (ov 0) (ov 1) (fw q)) (fun q => su_hose (hv 1 q) (hv 2 q) p1 p2 * 40 + hv 0 q) (k + 1)).length = (su_nk fH (fun q => su_us (hv 7 q) (hv 4 q) (hv 8 q) al p3 (ov 0) (ov 1) (fw q)) (fun q => su_hose (hv 1 q) (hv 2 q) p1 p2 * 40 + hv 0 q) k).length + 1 := by rw [hL, su_insl_len]
          refine ih (k + 1) (by omega) kg9 P9 H _ ls ?_ (by rw [hL]; exact su_ins_row rfl hi9 hrow (su_nk_sorted _ _ _ k)) hw (lv_sub hl [0, 2, 3, 4, 5, 6, 7, 8] rfl)
          rw [e9, ePk, hLn, nI_succ, pm_uc nK, pm_uu, pm_uu]
  refine lv_iload_n hx hb dd_C_near_0 rfl (lv_at hl 1 rfl) ?_
  refine lv_iload_n hx hb dd_C_near_1 rfl (lv_at hl 2 rfl) ?_
  refine cx_afterX (cx_rSX (n := 2) (As := [.int p1, .int p2]) (rest := []) ⟨hx, hb, hml, hown, hg⟩ (c_C_needPlace l hT z D ac sa P p1 p2) (cx_gs gm_C_61 gt_C_needPlace gn_C gc_C_needPlace) (by decide +kernel) ⟨by decide, by decide⟩ hK hw rfl hl.1 rfl (Nat.le_of_ble_eq_true rfl) dd_C_near_2 ⟨by decide, by decide⟩) hw (fun E9 ce9 q9 P9 H locs hp hw hce hcv hcl => ?_) (fun v9 P9 H locs hp hw => ?_)
  · skip
    obtain ⟨rfl, e9, n7⟩ := hp
    rw [e9] at hw
    clear e9 P9
    refine cx_pass hout hlocks hce hcv hcl hw ?_ (by decide) (by decide)
    exact ⟨rfl, rfl, fun h9 => n7 h9.1⟩
  · skip
    obtain ⟨rfl, e9, n8⟩ := hp
    rw [e9] at hw
    clear e9 P9
    refine W.eq (g2 := F0 m 5 ls []) rfl ?_
    refine lv_iload_n hx hb dd_C_near_5 rfl (lv_at hl 3 rfl) ?_
    refine cx_afterX (cx_rSX (n := 1) (As := [.int p3]) (rest := []) ⟨hx, hb, hml, hown, hg⟩ (c_C_needDay l hT z D ac sa P p3) (cx_gs gm_C_80 gt_C_needDay gn_C gc_C_needDay) (by decide +kernel) ⟨by decide, by decide⟩ hK hw rfl hl.1 rfl (Nat.le_of_ble_eq_true rfl) dd_C_near_6 ⟨by decide, by decide⟩) hw (fun E9 ce9 q9 P9 H locs hp hw hce hcv hcl => ?_) (fun v9 P9 H locs hp hw => ?_)
    · skip
      obtain ⟨rfl, e9, n9⟩ := hp
      rw [e9] at hw
      clear e9 P9
      refine cx_pass hout hlocks hce hcv hcl hw ?_ (by decide) (by decide)
      exact ⟨rfl, rfl, fun h9 => n9 h9.2.1⟩
    · skip
      obtain ⟨rfl, e9, n10⟩ := hp
      rw [e9] at hw
      clear e9 P9
      refine W.eq (g2 := F0 m 9 ls []) rfl ?_
      refine lv_iload hx hb dd_C_near_9 (lv_at hl 4 rfl) ?_
      refine cx_afterX (cx_rSX (n := 1) (As := [.int p4]) (rest := []) ⟨hx, hb, hml, hown, hg⟩ (c_C_needNotBelowZero l hT z D ac sa P p4) (cx_gs gm_C_168 gt_C_needNotBelowZero gn_C gc_C_needNotBelowZero) (by decide +kernel) ⟨by decide, by decide⟩ hK hw rfl hl.1 rfl (Nat.le_of_ble_eq_true rfl) dd_C_near_11 ⟨by decide, by decide⟩) hw (fun E9 ce9 q9 P9 H locs hp hw hce hcv hcl => ?_) (fun v9 P9 H locs hp hw => ?_)
      · skip
        obtain ⟨rfl, e9, n11⟩ := hp
        rw [e9] at hw
        clear e9 P9
        refine cx_pass hout hlocks hce hcv hcl hw ?_ (by decide) (by decide)
        exact ⟨rfl, rfl, fun h9 => n11 h9.2.2⟩
      · skip
        obtain ⟨rfl, e9, n12⟩ := hp
        rw [e9] at hw
        clear e9 P9
        refine W.eq (g2 := F0 m 14 ls []) rfl ?_
        refine lv_aload_n hx hb dd_C_near_14 rfl (lv_at hl 0 rfl) ?_
        refine pm_get (ci := 0) (C := cn_C) (T := cf_C) (N := 8) (v := .ref aK) hx hb hg gu_C hown hK.2.1 hw f0 rfl 3 (by decide) (hg _ gf_C_28) (fun _ h9 => h9) rfl dd_C_near_15 ?_
        refine cx_after (cx_rV (n := 0) (As := []) (rest := []) ⟨hx, hb, hml, hown, hg⟩ (c_K_clear l z D ac sa P aK ak ks kf f2) (cx_gv gm_C_171 gi_K_clear gs_K_clear gn_K gc_K_clear) (by decide +kernel) ⟨by decide, by decide⟩ hK hw f2 rfl rfl hl.1 rfl (Nat.le_of_ble_eq_true rfl) dd_C_near_18 ⟨by decide, by decide⟩) hw (fun v9 P9 H locs hp hw => ?_)
        obtain ⟨rfl, e9⟩ := hp
        rw [e9] at hw
        clear e9 P9
        refine W.eq (g2 := F0 m 21 ls []) rfl ?_
        have hw : pm_W z D cl_w (pm_up P aK (.inr (4, [.ref ak, .int 0]))) s.heap H _ := hw
        obtain ⟨P13, eP13⟩ : ∃ pmv : pm_T, pmv = pm_up P aK (.inr (4, [.ref ak, .int 0])) := ⟨_, rfl⟩
        rw [← eP13] at hw
        have f14 : P13 h0 = some (.inr (0, [.ref aH, .ref aT, .ref aL, .ref aK, .ref aW, .int nh, .int nt, .int al])) := by rw [eP13, pm_n (pm_ne f0 f2 (by simp))]; exact f0
        have f15 : P13 aH = some (.inl (ac 3, 40, .inr (.inr (.inr (.inr fH))))) := by rw [eP13, pm_n (pm_ne f1 f2 (by simp))]; exact f1
        have f16 : P13 ak = some (.inl (ac 0, 40, .inl kf)) := by rw [eP13, pm_n (pm_ne f3 f2 (by simp))]; exact f3
        have f17 : P13 aK = some (.inr (4, [.ref ak, .int 0])) := by rw [eP13]; exact pm_s
        refine lv_aload_n hx hb dd_C_near_21 rfl (lv_at hl 0 rfl) ?_
        refine pm_get (ci := 0) (C := cn_C) (T := cf_C) (N := 8) (v := .ref aH) hx hb hg gu_C hown hK.2.1 hw f14 rfl 0 (by decide) (hg _ gf_C_11) (fun _ h9 => h9) rfl dd_C_near_22 ?_
        refine lv_astore (lv' := [(5, .ref aH), (0, .ref h0), (1, .int p1), (2, .int p2), (3, .int p3), (4, .int p4)]) hx hb dd_C_near_25 hl (by decide) rfl (fun ls hl => ?_)
        refine lv_aload hx hb dd_C_near_27 (lv_at hl 0 rfl) ?_
        refine pm_alen (v := 40) hx hb hK.2.1 hw 3 f15 rfl rfl dd_C_near_29 ?_
        refine lv_istore (lv' := [(6, .int (40 : Int32)), (5, .ref aH), (0, .ref h0), (1, .int p1), (2, .int p2), (3, .int p3), (4, .int p4)]) hx hb dd_C_near_30 hl (by decide) rfl (fun ls hl => ?_)
        refine lv_iconst (v := 0) hx hb dd_C_near_32 (by decide) ?_
        refine lv_istore (lv' := [(7, .int (0 : Int32)), (6, .int (40 : Int32)), (5, .ref aH), (0, .ref h0), (1, .int p1), (2, .int p2), (3, .int p3), (4, .int p4)]) hx hb dd_C_near_33 hl (by decide) rfl (fun ls hl => ?_)
        exact lp ⟨n8, n10, n12⟩ 40 0 (by decide) kf P13 _ _ ls (by rw [eP13, pm_id f3]; rfl) (fun j hj => absurd hj (Nat.not_lt_zero j)) hw (lv_sub hl [0, 1, 2, 3, 4, 5, 6, 7] rfl)

set_option maxHeartbeats 4000000 in
set_option maxRecDepth 100000 in
theorem c_C_overdue (l : Launch) (hT : l.stackTraces = false) (z : Nat) (D : va_G) (ac : Nat → ClassId) (sa : Nat → Nat) (P : pm_T) (h0 aH aT aL aK aW : Nat) (nh nt al : Int32) (ak : Nat) (ks : Int32) (kf : Nat → Int32) (fH : Nat → Option Nat) (hv tv ov : Nat → Nat → Int32) (aw : Nat → Nat) (ct : Nat → Option Nat) (fw : Nat → Nat → Option Nat) (p1 p2 p3 : Int32) (fy : hy_W P ac fH hv tv ov aw ct fw) (f0 : P h0 = some (.inr (0, [.ref aH, .ref aT, .ref aL, .ref aK, .ref aW, .int nh, .int nt, .int al]))) (f1 : P aH = some (.inl (ac 3, 40, .inr (.inr (.inr (.inr fH)))))) (f2 : P aK = some (.inr (4, [.ref ak, .int ks]))) (f3 : P ak = some (.inl (ac 0, 40, .inl kf))) : cx_V l yy_C_overdue bb_C_overdue 8 (some .int) ({ frames := 7, cells := 2, slots := 12, locals := 111 } : Room) z D ac sa P [.ref h0, .int p1, .int p2, .int p3] (fun v P' => (su_day p1 ∧ su_ds p2 ∧ su_nn p3) ∧ ∃ kg : Nat → Int32, su_row kg (su_nk fH (fun q => su_od (tv 2) (ct q) p1 p2) (fun q => su_ow (tv 2) (ct q) * 40 + hv 0 q) 40) ∧ v = some (.int (su_num kg (nI (su_nk fH (fun q => su_od (tv 2) (ct q) p1 p2) (fun q => su_ow (tv 2) (ct q) * 40 + hv 0 q) 40).length) p3)) ∧ P' = pm_up (pm_up P ak (.inl (ac 0, 40, .inl kg))) aK (.inr (4, [.ref ak, .int (nI (su_nk fH (fun q => su_od (tv 2) (ct q) p1 p2) (fun q => su_ow (tv 2) (ct q) * 40 + hv 0 q) 40).length)]))) (fun E P' => E = xn_IOB ∧ P' = P ∧ ¬ (su_day p1 ∧ su_ds p2 ∧ su_nn p3)) := by
  refine cx_ofV (by decide) (Nat.le_of_ble_eq_true rfl) (fun p e s m below meth c ls hx hb hr hml hg hown hlocks hout hK hw hl => ?_)
  have hl : lv_has ls 8 [(0, .ref h0), (1, .int p1), (2, .int p2), (3, .int p3)] := hl
  have hown : s.vm.findClass cn_C = some m.cls := hown
  have lp : (su_day p1 ∧ su_ds p2 ∧ su_nn p3) → ∀ (n k : Nat), k + n = 40 → ∀ (kg : Nat → Int32) (Pk : pm_T) (H : Heap) (locs : List Loc) (ls : Array Slot), Pk = pm_up (pm_up P ak (.inl (ac 0, 40, .inl kg))) aK (.inr (4, [.ref ak, .int (nI (su_nk fH (fun q => su_od (tv 2) (ct q) p1 p2) (fun q => su_ow (tv 2) (ct q) * 40 + hv 0 q) k).length)])) → su_row kg (su_nk fH (fun q => su_od (tv 2) (ct q) p1 p2) (fun q => su_ow (tv 2) (ct q) * 40 + hv 0 q) k) → pm_W z D cl_w Pk s.heap H locs → lv_has ls 8 [(6, .int (nI k)), (5, .int (40 : Int32)), (4, .ref aH), (0, .ref h0), (1, .int p1), (2, .int p2), (3, .int p3)] → W p l e ({ frames := 7, cells := 2, slots := 12, locals := 111 } : Room) s m ([.ref h0, .int p1, .int p2, .int p3] : List Value).toArray below meth c H locs 2 12 (vx_MQ below (cx_Q z D (fun v P' => (su_day p1 ∧ su_ds p2 ∧ su_nn p3) ∧ ∃ kg : Nat → Int32, su_row kg (su_nk fH (fun q => su_od (tv 2) (ct q) p1 p2) (fun q => su_ow (tv 2) (ct q) * 40 + hv 0 q) 40) ∧ v = some (.int (su_num kg (nI (su_nk fH (fun q => su_od (tv 2) (ct q) p1 p2) (fun q => su_ow (tv 2) (ct q) * 40 + hv 0 q) 40).length) p3)) ∧ P' = pm_up (pm_up P ak (.inl (ac 0, 40, .inl kg))) aK (.inr (4, [.ref ak, .int (nI (su_nk fH (fun q => su_od (tv 2) (ct q) p1 p2) (fun q => su_ow (tv 2) (ct q) * 40 + hv 0 q) 40).length)])))) (cx_X z D (fun E P' => E = xn_IOB ∧ P' = P ∧ ¬ (su_day p1 ∧ su_ds p2 ∧ su_nn p3))) ([.ref h0, .int p1, .int p2, .int p3] : List Value).toArray s ({ frames := 7, cells := 2, slots := 12, locals := 111 } : Room).cells ({ frames := 7, cells := 2, slots := 12, locals := 111 } : Room).slots (pm_A z)) (F0 m 50 ls []) := by
    intro hpre n
    induction n with
    | zero =>
      intro k hk kg Pk H locs ls ePk hrow hw hl
      have hk : k = 40 := by omega
      subst hk
      have nK : aK ≠ ak := pm_ne f2 f3 (by simp)
      have g0 : Pk h0 = some (.inr (0, [.ref aH, .ref aT, .ref aL, .ref aK, .ref aW, .int nh, .int nt, .int al])) := by rw [ePk, pm_n (pm_ne f0 f2 (by simp)), pm_n (pm_ne f0 f3 (by simp))]; exact f0
      have g1 : Pk aH = some (.inl (ac 3, 40, .inr (.inr (.inr (.inr fH))))) := by rw [ePk, pm_n (pm_ne f1 f2 (by simp)), pm_n (pm_ne f1 f3 (by simp))]; exact f1
      have g2 : Pk aK = some (.inr (4, [.ref ak, .int (nI (su_nk fH (fun q => su_od (tv 2) (ct q) p1 p2) (fun q => su_ow (tv 2) (ct q) * 40 + hv 0 q) 40).length)])) := by rw [ePk]; exact pm_s
      have g3 : Pk ak = some (.inl (ac 0, 40, .inl kg)) := by rw [ePk, pm_n (Ne.symm nK)]; exact pm_s
      have gy : hy_W Pk ac fH hv tv ov aw ct fw := by rw [ePk]; exact (fy.up f3 rfl).up (x := .inr (4, [.ref ak, .int ks])) (by rw [pm_n nK]; exact f2) rfl
      refine lv_iload hx hb dd_C_overdue_50 (lv_at hl 0 rfl) ?_
      refine lv_iload hx hb dd_C_overdue_52 (lv_at hl 1 rfl) ?_
      refine lv_icmp_ge (tgt := 102) hx hb dd_C_overdue_54 (by decide) (fun c1 => ?_) (fun c1 => absurd (nI_le (Nat.le_refl 40) (by decide)) c1)
      refine lv_aload_n hx hb dd_C_overdue_102 rfl (lv_at hl 3 rfl) ?_
      refine pm_get (ci := 0) (C := cn_C) (T := cf_C) (N := 8) (v := .ref aK) hx hb hg gu_C hown hK.2.1 hw g0 rfl 3 (by decide) (hg _ gf_C_28) (fun _ h9 => h9) rfl dd_C_overdue_103 ?_
      refine lv_iload_n hx hb dd_C_overdue_106 rfl (lv_at hl 6 rfl) ?_
      refine cx_after (cx_rV (n := 1) (As := [.int p3]) (rest := []) ⟨hx, hb, hml, hown, hg⟩ (c_K_numberAt l z D ac sa Pk aK ak (nI (su_nk fH (fun q => su_od (tv 2) (ct q) p1 p2) (fun q => su_ow (tv 2) (ct q) * 40 + hv 0 q) 40).length) kg p3 g2 g3) (cx_gv gm_C_183 gi_K_numberAt gs_K_numberAt gn_K gc_K_numberAt) (by decide +kernel) ⟨by decide, by decide⟩ hK hw g2 rfl rfl hl.1 rfl (Nat.le_of_ble_eq_true rfl) dd_C_overdue_107 ⟨by decide, by decide⟩) hw (fun v9 P9 H locs hp hw => ?_)
      obtain ⟨rfl, e9⟩ := hp
      rw [e9] at hw
      clear e9 P9
      refine W.eq (g2 := F0 m 110 ls [.int (su_num kg (nI (su_nk fH (fun q => su_od (tv 2) (ct q) p1 p2) (fun q => su_ow (tv 2) (ct q) * 40 + hv 0 q) 40).length) p3)]) rfl ?_
      refine vx_ret (cx_iret (v := (su_num kg (nI (su_nk fH (fun q => su_od (tv 2) (ct q) p1 p2) (fun q => su_ow (tv 2) (ct q) * 40 + hv 0 q) 40).length) p3)) hx hb hr rfl hlocks hw dd_C_overdue_110 (by decide) (by decide) ?_)
      exact ⟨hpre, kg, hrow, rfl, ePk⟩
    | succ n ih =>
      intro k hk kg Pk H locs ls ePk hrow hw hl
      have hlt : k < 40 := by omega
      have hcl : (nI k).toNatClampNeg = k := nI_clamp (by omega)
      have nK : aK ≠ ak := pm_ne f2 f3 (by simp)
      have g0 : Pk h0 = some (.inr (0, [.ref aH, .ref aT, .ref aL, .ref aK, .ref aW, .int nh, .int nt, .int al])) := by rw [ePk, pm_n (pm_ne f0 f2 (by simp)), pm_n (pm_ne f0 f3 (by simp))]; exact f0
      have g1 : Pk aH = some (.inl (ac 3, 40, .inr (.inr (.inr (.inr fH))))) := by rw [ePk, pm_n (pm_ne f1 f2 (by simp)), pm_n (pm_ne f1 f3 (by simp))]; exact f1
      have g2 : Pk aK = some (.inr (4, [.ref ak, .int (nI (su_nk fH (fun q => su_od (tv 2) (ct q) p1 p2) (fun q => su_ow (tv 2) (ct q) * 40 + hv 0 q) k).length)])) := by rw [ePk]; exact pm_s
      have g3 : Pk ak = some (.inl (ac 0, 40, .inl kg)) := by rw [ePk, pm_n (Ne.symm nK)]; exact pm_s
      have gy : hy_W Pk ac fH hv tv ov aw ct fw := by rw [ePk]; exact (fy.up f3 rfl).up (x := .inr (4, [.ref ak, .int ks])) (by rw [pm_n nK]; exact f2) rfl
      refine lv_iload hx hb dd_C_overdue_50 (lv_at hl 0 rfl) ?_
      refine lv_iload hx hb dd_C_overdue_52 (lv_at hl 1 rfl) ?_
      refine lv_icmp_ge (tgt := 102) hx hb dd_C_overdue_54 (by decide) (fun c2 => absurd c2 (nI_ge hlt (by decide))) (fun c2 => ?_)
      refine lv_aload hx hb dd_C_overdue_57 (lv_at hl 2 rfl) ?_
      refine lv_iload hx hb dd_C_overdue_59 (lv_at hl 0 rfl) ?_
      refine pm_aald hx hb hK.2.1 hw 3 g1 rfl (vp_in_nI hlt (by decide)) dd_C_overdue_61 ?_
      refine W.eq (g2 := F0 m 62 ls [va_rf (fH k)]) (by rw [hcl]) ?_
      rcases hq : fH k with _ | q
      · skip
        refine W.eq (g2 := F0 m 62 ls [.null]) rfl ?_
        refine lv_astoreN (lv' := [(7, .null), (6, .int (nI k)), (5, .int (40 : Int32)), (4, .ref aH), (0, .ref h0), (1, .int p1), (2, .int p2), (3, .int p3)]) hx hb dd_C_overdue_62 hl (by decide) rfl (fun ls hl => ?_)
        refine lv_aloadN hx hb dd_C_overdue_64 (lv_at hl 0 rfl) ?_
        refine lv_ifnullN (tgt := 96) hx hb dd_C_overdue_66 (by decide) ?_
        obtain ⟨x3, ex3⟩ : ∃ y : Int32, y = (nI k) + 1 := ⟨_, rfl⟩
        refine lv_iinc (v := x3) (lv' := [(6, .int x3), (7, .null), (5, .int (40 : Int32)), (4, .ref aH), (0, .ref h0), (1, .int p1), (2, .int p2), (3, .int p3)]) hx hb dd_C_overdue_96 hl (k := 1) rfl (by rw [ex3]; rfl) (by decide) rfl (fun ls hl => ?_)
        refine lv_goto (tgt := 50) hx hb dd_C_overdue_99 (by decide) ?_
        have hi : x3 = nI (k + 1) := by rw [ex3]; exact nI_1 k
        rw [hi] at hl
        have hL : su_nk fH (fun q => su_od (tv 2) (ct q) p1 p2) (fun q => su_ow (tv 2) (ct q) * 40 + hv 0 q) (k + 1) = su_nk fH (fun q => su_od (tv 2) (ct q) p1 p2) (fun q => su_ow (tv 2) (ct q) * 40 + hv 0 q) k := by simp only [su_nk, hq]
        exact ih (k + 1) (by omega) kg Pk H _ ls (by rw [hL]; exact ePk) (by rw [hL]; exact hrow) hw (lv_sub hl [0, 2, 3, 4, 5, 6, 7] rfl)
      · skip
        refine W.eq (g2 := F0 m 62 ls [.ref q]) rfl ?_
        obtain ⟨fq, fqw, fo, ft⟩ := gy k q hq
        refine lv_astore (lv' := [(7, .ref q), (6, .int (nI k)), (5, .int (40 : Int32)), (4, .ref aH), (0, .ref h0), (1, .int p1), (2, .int p2), (3, .int p3)]) hx hb dd_C_overdue_62 hl (by decide) rfl (fun ls hl => ?_)
        refine lv_aload hx hb dd_C_overdue_64 (lv_at hl 0 rfl) ?_
        refine lv_ifnull hx hb dd_C_overdue_66 ?_
        refine lv_aload hx hb dd_C_overdue_69 (lv_at hl 0 rfl) ?_
        refine lv_iload_n hx hb dd_C_overdue_71 rfl (lv_at hl 5 rfl) ?_
        refine lv_iload_n hx hb dd_C_overdue_72 rfl (lv_at hl 6 rfl) ?_
        refine cx_after (cx_rV (n := 2) (As := [.int p1, .int p2]) (rest := []) ⟨hx, hb, hml, hown, hg⟩ (c_H_isOverdue l z D ac sa Pk q (aw q) (hv 0 q) (hv 1 q) (hv 2 q) (hv 3 q) (hv 4 q) (hv 6 q) (hv 7 q) (hv 8 q) (hv 9 q) (ct q) (tv 0) (tv 1) (tv 2) (tv 3) (tv 4) (tv 5) p1 p2 ft fq) (cx_gv gm_C_225 gi_H_isOverdue gs_H_isOverdue gn_H gc_H_isOverdue) (by decide +kernel) ⟨by decide, by decide⟩ hK hw fq rfl rfl hl.1 rfl (Nat.le_of_ble_eq_true rfl) dd_C_overdue_73 ⟨by decide, by decide⟩) hw (fun v9 P9 H locs hp hw => ?_)
        obtain ⟨rfl, e9⟩ := hp
        rw [e9] at hw
        clear e9 P9
        refine W.eq (g2 := F0 m 76 ls [.int (su_od (tv 2) (ct q) p1 p2)]) rfl ?_
        refine lv_if_eq (tgt := 96) hx hb dd_C_overdue_76 (by decide) (fun c4 => ?_) (fun c4 => ?_)
        · skip
          obtain ⟨x5, ex5⟩ : ∃ y : Int32, y = (nI k) + 1 := ⟨_, rfl⟩
          refine lv_iinc (v := x5) (lv' := [(6, .int x5), (7, .ref q), (5, .int (40 : Int32)), (4, .ref aH), (0, .ref h0), (1, .int p1), (2, .int p2), (3, .int p3)]) hx hb dd_C_overdue_96 hl (k := 1) rfl (by rw [ex5]; rfl) (by decide) rfl (fun ls hl => ?_)
          refine lv_goto (tgt := 50) hx hb dd_C_overdue_99 (by decide) ?_
          have hi : x5 = nI (k + 1) := by rw [ex5]; exact nI_1 k
          rw [hi] at hl
          have hL : su_nk fH (fun q => su_od (tv 2) (ct q) p1 p2) (fun q => su_ow (tv 2) (ct q) * 40 + hv 0 q) (k + 1) = su_nk fH (fun q => su_od (tv 2) (ct q) p1 p2) (fun q => su_ow (tv 2) (ct q) * 40 + hv 0 q) k := by simp only [su_nk, hq]; exact if_pos c4
          exact ih (k + 1) (by omega) kg Pk H _ ls (by rw [hL]; exact ePk) (by rw [hL]; exact hrow) hw (lv_sub hl [0, 2, 3, 4, 5, 6, 7] rfl)
        · skip
          refine lv_aload_n hx hb dd_C_overdue_79 rfl (lv_at hl 4 rfl) ?_
          refine pm_get (ci := 0) (C := cn_C) (T := cf_C) (N := 8) (v := .ref aK) hx hb hg gu_C hown hK.2.1 hw g0 rfl 3 (by decide) (hg _ gf_C_28) (fun _ h9 => h9) rfl dd_C_overdue_80 ?_
          refine lv_aload hx hb dd_C_overdue_83 (lv_at hl 0 rfl) ?_
          refine cx_after (cx_rV (n := 0) (As := []) (rest := [.ref aK]) ⟨hx, hb, hml, hown, hg⟩ (c_H_overdueWeight l z D ac sa Pk q (aw q) (hv 0 q) (hv 1 q) (hv 2 q) (hv 3 q) (hv 4 q) (hv 6 q) (hv 7 q) (hv 8 q) (hv 9 q) (ct q) (tv 0) (tv 1) (tv 2) (tv 3) (tv 4) (tv 5)  ft fq) (cx_gv gm_C_228 gi_H_overdueWeight gs_H_overdueWeight gn_H gc_H_overdueWeight) (by decide +kernel) ⟨by decide, by decide⟩ hK hw fq rfl rfl hl.1 rfl (Nat.le_of_ble_eq_true rfl) dd_C_overdue_85 ⟨by decide, by decide⟩) hw (fun v9 P9 H locs hp hw => ?_)
          obtain ⟨rfl, e9⟩ := hp
          rw [e9] at hw
          clear e9 P9
          refine W.eq (g2 := F0 m 88 ls [.int (su_ow (tv 2) (ct q)), .ref aK]) rfl ?_
          refine lv_aload hx hb dd_C_overdue_88 (lv_at hl 0 rfl) ?_
          refine pm_get (ci := 1) (C := cn_H) (T := cf_H) (N := 11) (v := .int (hv 0 q)) hx hb hg gu_H hown hK.2.1 hw fq rfl 0 (by decide) (hg _ gf_C_177) (fun _ h9 => h9) rfl dd_C_overdue_90 ?_
          refine cx_after (cx_rV (n := 2) (As := [.int (su_ow (tv 2) (ct q)), .int (hv 0 q)]) (rest := []) ⟨hx, hb, hml, hown, hg⟩ (c_K_insert l z D ac sa Pk aK ak (su_nk fH (fun q => su_od (tv 2) (ct q) p1 p2) (fun q => su_ow (tv 2) (ct q) * 40 + hv 0 q) k).length kg (su_ow (tv 2) (ct q)) (hv 0 q) (Nat.lt_of_le_of_lt (su_nk_len _ _ _ k) hlt) g2 g3) (cx_gv gm_C_180 gi_K_insert gs_K_insert gn_K gc_K_insert) (by decide +kernel) ⟨by decide, by decide⟩ hK hw g2 rfl rfl hl.1 rfl (Nat.le_of_ble_eq_true rfl) dd_C_overdue_93 ⟨by decide, by decide⟩) hw (fun v9 P9 H locs hp hw => ?_)
          obtain ⟨rfl, a9, kg9, hi9, e9⟩ := hp
          refine W.eq (g2 := F0 m 96 ls []) rfl ?_
          obtain ⟨x6, ex6⟩ : ∃ y : Int32, y = (nI k) + 1 := ⟨_, rfl⟩
          refine lv_iinc (v := x6) (lv' := [(6, .int x6), (7, .ref q), (5, .int (40 : Int32)), (4, .ref aH), (0, .ref h0), (1, .int p1), (2, .int p2), (3, .int p3)]) hx hb dd_C_overdue_96 hl (k := 1) rfl (by rw [ex6]; rfl) (by decide) rfl (fun ls hl => ?_)
          refine lv_goto (tgt := 50) hx hb dd_C_overdue_99 (by decide) ?_
          have hi : x6 = nI (k + 1) := by rw [ex6]; exact nI_1 k
          rw [hi] at hl
          have hL : su_nk fH (fun q => su_od (tv 2) (ct q) p1 p2) (fun q => su_ow (tv 2) (ct q) * 40 + hv 0 q) (k + 1) = su_insl ((fun q => su_ow (tv 2) (ct q) * 40 + hv 0 q) q) (su_nk fH (fun q => su_od (tv 2) (ct q) p1 p2) (fun q => su_ow (tv 2) (ct q) * 40 + hv 0 q) k) := by simp only [su_nk, hq]; exact if_neg c4
          have hLn : (su_nk fH (fun q => su_od (tv 2) (ct q) p1 p2) (fun q => su_ow (tv 2) (ct q) * 40 + hv 0 q) (k + 1)).length = (su_nk fH (fun q => su_od (tv 2) (ct q) p1 p2) (fun q => su_ow (tv 2) (ct q) * 40 + hv 0 q) k).length + 1 := by rw [hL, su_insl_len]
          refine ih (k + 1) (by omega) kg9 P9 H _ ls ?_ (by rw [hL]; exact su_ins_row rfl hi9 hrow (su_nk_sorted _ _ _ k)) hw (lv_sub hl [0, 2, 3, 4, 5, 6, 7] rfl)
          rw [e9, ePk, hLn, nI_succ, pm_uc nK, pm_uu, pm_uu]
  refine lv_iload_n hx hb dd_C_overdue_0 rfl (lv_at hl 1 rfl) ?_
  refine cx_afterX (cx_rSX (n := 1) (As := [.int p1]) (rest := []) ⟨hx, hb, hml, hown, hg⟩ (c_C_needDay l hT z D ac sa P p1) (cx_gs gm_C_80 gt_C_needDay gn_C gc_C_needDay) (by decide +kernel) ⟨by decide, by decide⟩ hK hw rfl hl.1 rfl (Nat.le_of_ble_eq_true rfl) dd_C_overdue_1 ⟨by decide, by decide⟩) hw (fun E9 ce9 q9 P9 H locs hp hw hce hcv hcl => ?_) (fun v9 P9 H locs hp hw => ?_)
  · skip
    obtain ⟨rfl, e9, n7⟩ := hp
    rw [e9] at hw
    clear e9 P9
    refine cx_pass hout hlocks hce hcv hcl hw ?_ (by decide) (by decide)
    exact ⟨rfl, rfl, fun h9 => n7 h9.1⟩
  · skip
    obtain ⟨rfl, e9, n8⟩ := hp
    rw [e9] at hw
    clear e9 P9
    refine W.eq (g2 := F0 m 4 ls []) rfl ?_
    refine lv_iload_n hx hb dd_C_overdue_4 rfl (lv_at hl 2 rfl) ?_
    refine lv_if_lt (tgt := 15) hx hb dd_C_overdue_5 (by decide) (fun c9 => ?_) (fun c9 => ?_)
    · skip
      refine cx_thrS (E := xn_IOB) (text := "no such number of days") hx hb hT (by rw [hml]; exact hl.1.symm) hown hg hK hw (by decide +kernel) gk_C_132 gn_IndexOutOfBoundsException xg_IOB xb_IOB xo_IOB (by decide +kernel) dd_C_overdue_15 dd_C_overdue_18 dd_C_overdue_19 dd_C_overdue_21 dd_C_overdue_24 hout ⟨by decide, Nat.le_of_ble_eq_true rfl, by decide, by decide⟩ hlocks (by decide) (by decide) ?_
      exact ⟨rfl, rfl, fun h9 => absurd c9 h9.2.1.1⟩
    · skip
      refine lv_iload_n hx hb dd_C_overdue_8 rfl (lv_at hl 2 rfl) ?_
      refine lv_sipush (v := 9999) hx hb dd_C_overdue_9 (by decide) ?_
      refine lv_icmp_le (tgt := 25) hx hb dd_C_overdue_12 (by decide) (fun c10 => ?_) (fun c10 => ?_)
      · skip
        refine lv_iload_n hx hb dd_C_overdue_25 rfl (lv_at hl 3 rfl) ?_
        refine cx_afterX (cx_rSX (n := 1) (As := [.int p3]) (rest := []) ⟨hx, hb, hml, hown, hg⟩ (c_C_needNotBelowZero l hT z D ac sa P p3) (cx_gs gm_C_168 gt_C_needNotBelowZero gn_C gc_C_needNotBelowZero) (by decide +kernel) ⟨by decide, by decide⟩ hK hw rfl hl.1 rfl (Nat.le_of_ble_eq_true rfl) dd_C_overdue_26 ⟨by decide, by decide⟩) hw (fun E9 ce9 q9 P9 H locs hp hw hce hcv hcl => ?_) (fun v9 P9 H locs hp hw => ?_)
        · skip
          obtain ⟨rfl, e9, n11⟩ := hp
          rw [e9] at hw
          clear e9 P9
          refine cx_pass hout hlocks hce hcv hcl hw ?_ (by decide) (by decide)
          exact ⟨rfl, rfl, fun h9 => n11 h9.2.2⟩
        · skip
          obtain ⟨rfl, e9, n12⟩ := hp
          rw [e9] at hw
          clear e9 P9
          refine W.eq (g2 := F0 m 29 ls []) rfl ?_
          refine lv_aload_n hx hb dd_C_overdue_29 rfl (lv_at hl 0 rfl) ?_
          refine pm_get (ci := 0) (C := cn_C) (T := cf_C) (N := 8) (v := .ref aK) hx hb hg gu_C hown hK.2.1 hw f0 rfl 3 (by decide) (hg _ gf_C_28) (fun _ h9 => h9) rfl dd_C_overdue_30 ?_
          refine cx_after (cx_rV (n := 0) (As := []) (rest := []) ⟨hx, hb, hml, hown, hg⟩ (c_K_clear l z D ac sa P aK ak ks kf f2) (cx_gv gm_C_171 gi_K_clear gs_K_clear gn_K gc_K_clear) (by decide +kernel) ⟨by decide, by decide⟩ hK hw f2 rfl rfl hl.1 rfl (Nat.le_of_ble_eq_true rfl) dd_C_overdue_33 ⟨by decide, by decide⟩) hw (fun v9 P9 H locs hp hw => ?_)
          obtain ⟨rfl, e9⟩ := hp
          rw [e9] at hw
          clear e9 P9
          refine W.eq (g2 := F0 m 36 ls []) rfl ?_
          have hw : pm_W z D cl_w (pm_up P aK (.inr (4, [.ref ak, .int 0]))) s.heap H _ := hw
          obtain ⟨P13, eP13⟩ : ∃ pmv : pm_T, pmv = pm_up P aK (.inr (4, [.ref ak, .int 0])) := ⟨_, rfl⟩
          rw [← eP13] at hw
          have f14 : P13 h0 = some (.inr (0, [.ref aH, .ref aT, .ref aL, .ref aK, .ref aW, .int nh, .int nt, .int al])) := by rw [eP13, pm_n (pm_ne f0 f2 (by simp))]; exact f0
          have f15 : P13 aH = some (.inl (ac 3, 40, .inr (.inr (.inr (.inr fH))))) := by rw [eP13, pm_n (pm_ne f1 f2 (by simp))]; exact f1
          have f16 : P13 ak = some (.inl (ac 0, 40, .inl kf)) := by rw [eP13, pm_n (pm_ne f3 f2 (by simp))]; exact f3
          have f17 : P13 aK = some (.inr (4, [.ref ak, .int 0])) := by rw [eP13]; exact pm_s
          refine lv_aload_n hx hb dd_C_overdue_36 rfl (lv_at hl 0 rfl) ?_
          refine pm_get (ci := 0) (C := cn_C) (T := cf_C) (N := 8) (v := .ref aH) hx hb hg gu_C hown hK.2.1 hw f14 rfl 0 (by decide) (hg _ gf_C_11) (fun _ h9 => h9) rfl dd_C_overdue_37 ?_
          refine lv_astore (lv' := [(4, .ref aH), (0, .ref h0), (1, .int p1), (2, .int p2), (3, .int p3)]) hx hb dd_C_overdue_40 hl (by decide) rfl (fun ls hl => ?_)
          refine lv_aload hx hb dd_C_overdue_42 (lv_at hl 0 rfl) ?_
          refine pm_alen (v := 40) hx hb hK.2.1 hw 3 f15 rfl rfl dd_C_overdue_44 ?_
          refine lv_istore (lv' := [(5, .int (40 : Int32)), (4, .ref aH), (0, .ref h0), (1, .int p1), (2, .int p2), (3, .int p3)]) hx hb dd_C_overdue_45 hl (by decide) rfl (fun ls hl => ?_)
          refine lv_iconst (v := 0) hx hb dd_C_overdue_47 (by decide) ?_
          refine lv_istore (lv' := [(6, .int (0 : Int32)), (5, .int (40 : Int32)), (4, .ref aH), (0, .ref h0), (1, .int p1), (2, .int p2), (3, .int p3)]) hx hb dd_C_overdue_48 hl (by decide) rfl (fun ls hl => ?_)
          exact lp ⟨n8, ⟨c9, c10⟩, n12⟩ 40 0 (by decide) kf P13 _ _ ls (by rw [eP13, pm_id f3]; rfl) (fun j hj => absurd hj (Nat.not_lt_zero j)) hw (lv_sub hl [0, 1, 2, 3, 4, 5, 6] rfl)
      · skip
        refine cx_thrS (E := xn_IOB) (text := "no such number of days") hx hb hT (by rw [hml]; exact hl.1.symm) hown hg hK hw (by decide +kernel) gk_C_132 gn_IndexOutOfBoundsException xg_IOB xb_IOB xo_IOB (by decide +kernel) dd_C_overdue_15 dd_C_overdue_18 dd_C_overdue_19 dd_C_overdue_21 dd_C_overdue_24 hout ⟨by decide, Nat.le_of_ble_eq_true rfl, by decide, by decide⟩ hlocks (by decide) (by decide) ?_
        exact ⟨rfl, rfl, fun h9 => absurd h9.2.1.2 c10⟩
