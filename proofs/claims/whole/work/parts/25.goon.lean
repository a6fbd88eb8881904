theorem pm_3 {P : pm_T} {y b h : Nat} {a1 a2 b1 b2 c1 c2 : va_E} (hyb : y ≠ b) (hyh : y ≠ h) (hbh : b ≠ h) : pm_up (pm_up (pm_up (pm_up (pm_up (pm_up P y a1) b b1) h c1) y a2) b b2) h c2 = pm_up (pm_up (pm_up P y a2) b b2) h c2 := by
  funext q
  by_cases h1 : q = h
  · rw [h1, pm_s, pm_s]
  · rw [pm_n h1, pm_n h1]
    by_cases h2 : q = b
    · rw [h2, pm_s, pm_s]
    · rw [pm_n h2, pm_n h2]
      by_cases h3 : q = y
      · rw [h3, pm_s, pm_s]
      · rw [pm_n h3, pm_n h3, pm_n h1, pm_n h2, pm_n h3]

set_option maxHeartbeats 4000000 in
set_option maxRecDepth 100000 in
theorem c_A_goOn (l : Launch) (z : Nat) (D : va_G) (ac : Nat → ClassId) (sa : Nat → Nat) (h0 aC aY aB nc : Nat) (fC : Nat → Option Nat) (cq : Nat → Nat) (hv : Nat → Nat → Int32) (aw : Nat → Nat) (ct : Nat → Option Nat) (hYB : aY ≠ aB) (hnc : nc ≤ 6) (hC : ∀ i, i < 6 → fC i = if i < nc then some (cq i) else none) : ∀ (f d : Nat), d + f = 6 → ∀ (P : pm_T) (gone x y mm : Int32) (w b fY fB : Nat → Int32) (lt : Int32), su_e6 fY w → su_e6 fB b → P h0 = some (.inr (5, [.ref aC, .ref aY, .ref aB, .int (nI nc), .int lt])) → P aC = some (.inl (ac 3, 6, .inr (.inr (.inr (.inr fC))))) → P aY = some (.inl (ac 0, 6, .inl fY)) → P aB = some (.inl (ac 0, 6, .inl fB)) → (∀ i, i < nc → P (cq i) = some (.inr (1, [.int (hv 0 (cq i)), .int (hv 1 (cq i)), .int (hv 2 (cq i)), .int (hv 3 (cq i)), .int (hv 4 (cq i)), .ref (aw (cq i)), .int (hv 6 (cq i)), .int (hv 7 (cq i)), .int (hv 8 (cq i)), .int (hv 9 (cq i)), va_rf (ct (cq i))]))) → cx_M l yy_A_goOn bb_A_goOn 9 none ({ frames := f + 4, cells := 0, slots := 0, locals := 100 + 28 * (f) } : Room) z D ac sa P [.ref h0, .int (nI d), .int gone, .int x, .int y, .int mm] (fun v P' => v = none ∧ ∃ fY1 fB1 : Nat → Int32, su_e6 fY1 (su_go nc (fun i => hv 0 (cq i)) (fun i => hv 1 (cq i)) (fun i => hv 2 (cq i)) f d gone x y mm (w, b, lt)).1 ∧ su_e6 fB1 (su_go nc (fun i => hv 0 (cq i)) (fun i => hv 1 (cq i)) (fun i => hv 2 (cq i)) f d gone x y mm (w, b, lt)).2.1 ∧ P' = pm_up (pm_up (pm_up P aY (.inl (ac 0, 6, .inl fY1))) aB (.inl (ac 0, 6, .inl fB1))) h0 (.inr (5, [.ref aC, .ref aY, .ref aB, .int (nI nc), .int ((su_go nc (fun i => hv 0 (cq i)) (fun i => hv 1 (cq i)) (fun i => hv 2 (cq i)) f d gone x y mm (w, b, lt)).2.2)]))) := by
  intro f
  induction f with
  | zero =>
    intro d hd P gone x y mm w b fY fB lt hew heb f0 f1 f2 f3 fh
    have hd : d = 6 := by omega
    subst hd
    refine cx_ofM (by decide) (Nat.le_of_ble_eq_true rfl) (fun p e s m below meth c ls hx hb hr hml hg hown hlocks hin hK hw hl => ?_)
    have hl : lv_has ls 9 [(0, .ref h0), (1, .int (nI 6)), (2, .int gone), (3, .int x), (4, .int y), (5, .int mm)] := hl
    have hown : s.vm.findClass cn_A = some m.cls := hown
    refine lv_iload hx hb dd_A_goOn_0 (lv_at hl 5 rfl) ?_
    refine lv_iload_n hx hb dd_A_goOn_2 rfl (lv_at hl 3 rfl) ?_
    refine lv_iload hx hb dd_A_goOn_3 (lv_at hl 4 rfl) ?_
    refine lv_iconst (v := 0) hx hb dd_A_goOn_5 (by decide) ?_
    refine lv_iconst (v := 0) hx hb dd_A_goOn_6 (by decide) ?_
    refine cx_after (cx_rSN (host := "HydrantRows") (n := 4) (As := [.int x, .int y, .int (0 : Int32), .int (0 : Int32)]) (rest := [.int mm]) ⟨hx, hb, hml, hown, hg⟩ (c_C_hoseLength l z D ac sa P x y (0 : Int32) (0 : Int32)) gc_C_hoseLength (by decide +kernel) gt_C_hoseLength gn_C (by decide +kernel) ⟨by first | exact Nat.le_of_ble_eq_true rfl | (dsimp only; omega), by first | exact Nat.le_of_ble_eq_true rfl | (dsimp only; omega)⟩ hK hw rfl hl.1 rfl (Nat.le_of_ble_eq_true rfl) dd_A_goOn_7 ⟨Nat.le_of_ble_eq_true rfl, Nat.le_of_ble_eq_true rfl⟩) hw (fun v9 P9 H locs hp hw => ?_)
    obtain ⟨rfl, e9⟩ := hp
    rw [e9] at hw
    clear e9 P9
    refine W.eq (g2 := F0 m 10 ls [.int (su_hose x y (0 : Int32) (0 : Int32)), .int mm]) rfl ?_
    refine lv_iadd hx hb dd_A_goOn_10 ?_
    refine lv_topi (fun x1 ex1 => ?_)
    refine lv_istore (lv' := [(6, .int x1), (0, .ref h0), (1, .int (nI 6)), (2, .int gone), (3, .int x), (4, .int y), (5, .int mm)]) hx hb dd_A_goOn_11 hl (by decide) rfl (fun ls hl => ?_)
    refine lv_iload hx hb dd_A_goOn_13 (lv_at hl 0 rfl) ?_
    refine lv_aload_n hx hb dd_A_goOn_15 rfl (lv_at hl 1 rfl) ?_
    refine pm_get (ci := 5) (C := cn_A) (T := cf_A) (N := 5) (v := .int lt) hx hb hg gu_A hown hK.2.1 hw f0 rfl 4 (by decide) (hg _ gf_A_28) (fun _ h9 => h9) rfl dd_A_goOn_16 ?_
    refine lv_icmp_lt (tgt := 23) hx hb dd_A_goOn_19 (by decide) (fun c2 => ?_) (fun c2 => ?_)
    · skip
      refine lv_iload_n hx hb dd_A_goOn_23 rfl (lv_at hl 2 rfl) ?_
      refine lv_aload_n hx hb dd_A_goOn_24 rfl (lv_at hl 1 rfl) ?_
      refine pm_get (ci := 5) (C := cn_A) (T := cf_A) (N := 5) (v := .int (nI nc)) hx hb hg gu_A hown hK.2.1 hw f0 rfl 3 (by decide) (hg _ gf_A_24) (fun _ h9 => h9) rfl dd_A_goOn_25 ?_
      refine lv_icmp_ge (tgt := 37) hx hb dd_A_goOn_28 (by decide) (fun c3 => ?_) (fun c3 => absurd (nI_le hnc (by decide)) c3)
      refine lv_aload_n hx hb dd_A_goOn_37 rfl (lv_at hl 1 rfl) ?_
      refine lv_iload hx hb dd_A_goOn_38 (lv_at hl 0 rfl) ?_
      refine cx_after (cx_rV (n := 1) (As := [.int x1]) (rest := []) ⟨hx, hb, hml, hown, hg⟩ (c_A_keepWay l z D ac sa P h0 aC aY aB (nI nc) lt fY fB x1 hYB f0 f2 f3) (cx_gv gm_A_40 gi_A_keepWay gs_A_keepWay gn_A gc_A_keepWay) (by decide +kernel) ⟨by first | exact Nat.le_of_ble_eq_true rfl | (dsimp only; omega), by first | exact Nat.le_of_ble_eq_true rfl | (dsimp only; omega)⟩ hK hw f0 rfl rfl hl.1 rfl (Nat.le_of_ble_eq_true rfl) dd_A_goOn_40 ⟨Nat.le_of_ble_eq_true rfl, Nat.le_of_ble_eq_true rfl⟩) hw (fun v9 P9 H locs hp hw => ?_)
      obtain ⟨rfl, fD, hD, e9⟩ := hp
      refine W.eq (g2 := F0 m 43 ls []) rfl ?_
      refine cx_vret hx hb hr hlocks hw dd_A_goOn_43 (Nat.le_of_ble_eq_true rfl) (Nat.le_of_ble_eq_true rfl) ?_
      rw [ex1] at c2
      have hS : su_go nc (fun i => hv 0 (cq i)) (fun i => hv 1 (cq i)) (fun i => hv 2 (cq i)) 0 6 gone x y mm (w, b, lt) = (w, w, mm + su_hose x y 0 0) := if_pos c2
      refine ⟨rfl, fY, fD, ?_, ?_, ?_⟩
      · rw [hS]; exact hew
      · rw [hS]; exact fun i hi => (hD i hi).trans (hew i hi)
      · rw [hS, pm_id f2, e9, ex1]
    · skip
      refine cx_vret hx hb hr hlocks hw dd_A_goOn_22 (Nat.le_of_ble_eq_true rfl) (Nat.le_of_ble_eq_true rfl) ?_
      rw [ex1] at c2
      have hS : su_go nc (fun i => hv 0 (cq i)) (fun i => hv 1 (cq i)) (fun i => hv 2 (cq i)) 0 6 gone x y mm (w, b, lt) = (w, b, lt) := if_neg c2
      refine ⟨rfl, fY, fB, ?_, ?_, ?_⟩
      · rw [hS]; exact hew
      · rw [hS]; exact heb
      · rw [hS, pm_id f2, pm_id f3, pm_id f0]
  | succ f ih =>
    intro d hd P gone x y mm w b fY fB lt hew heb f0 f1 f2 f3 fh
    have hd6 : d < 6 := by omega
    have hcd : (nI d).toNatClampNeg = d := nI_clamp (by omega)
    have hY0 : aY ≠ h0 := pm_ne f2 f0 (by simp)
    have hB0 : aB ≠ h0 := pm_ne f3 f0 (by simp)
    refine cx_ofM (by decide) (Nat.le_of_ble_eq_true rfl) (fun p e s m below meth c ls hx hb hr hml hg hown hlocks hin hK hw hl => ?_)
    have hl : lv_has ls 9 [(0, .ref h0), (1, .int (nI d)), (2, .int gone), (3, .int x), (4, .int y), (5, .int mm)] := hl
    have hown : s.vm.findClass cn_A = some m.cls := hown
    have lp : mm + su_hose x y 0 0 < lt → ¬ nc ≤ d → ∀ (n i : Nat), i + n = 6 → ∀ (fY1 fB1 : Nat → Int32) (l1 sh : Int32) (Pk : pm_T) (H : Heap) (locs : List Loc) (ls : Array Slot), su_e6 fY1 (su_it nc gone d (fun i => hv 0 (cq i)) (fun i t => su_go nc (fun i => hv 0 (cq i)) (fun i => hv 1 (cq i)) (fun i => hv 2 (cq i)) f (d + 1) (gone ||| ((1 : Int32) <<< (nI i &&& 31))) (hv 1 (cq i)) (hv 2 (cq i)) (mm + su_hose (hv 1 (cq i)) (hv 2 (cq i)) x y) t) (w, b, lt) i).1 → su_e6 fB1 (su_it nc gone d (fun i => hv 0 (cq i)) (fun i t => su_go nc (fun i => hv 0 (cq i)) (fun i => hv 1 (cq i)) (fun i => hv 2 (cq i)) f (d + 1) (gone ||| ((1 : Int32) <<< (nI i &&& 31))) (hv 1 (cq i)) (hv 2 (cq i)) (mm + su_hose (hv 1 (cq i)) (hv 2 (cq i)) x y) t) (w, b, lt) i).2.1 → l1 = (su_it nc gone d (fun i => hv 0 (cq i)) (fun i t => su_go nc (fun i => hv 0 (cq i)) (fun i => hv 1 (cq i)) (fun i => hv 2 (cq i)) f (d + 1) (gone ||| ((1 : Int32) <<< (nI i &&& 31))) (hv 1 (cq i)) (hv 2 (cq i)) (mm + su_hose (hv 1 (cq i)) (hv 2 (cq i)) x y) t) (w, b, lt) i).2.2 → Pk = pm_up (pm_up (pm_up P aY (.inl (ac 0, 6, .inl fY1))) aB (.inl (ac 0, 6, .inl fB1))) h0 (.inr (5, [.ref aC, .ref aY, .ref aB, .int (nI nc), .int l1])) → pm_W z D cl_w Pk s.heap H locs → lv_has ls 9 [(7, .int (nI i)), (6, .int sh), (0, .ref h0), (1, .int (nI d)), (2, .int gone), (3, .int x), (4, .int y), (5, .int mm)] → W p l e ({ frames := (f + 1) + 4, cells := 0, slots := 0, locals := 100 + 28 * ((f + 1)) } : Room) s m ([.ref h0, .int (nI d), .int gone, .int x, .int y, .int mm] : List Value).toArray below meth c H locs 0 0 (MQ below (cx_Q z D (fun v P' => v = none ∧ ∃ fY1 fB1 : Nat → Int32, su_e6 fY1 (su_go nc (fun i => hv 0 (cq i)) (fun i => hv 1 (cq i)) (fun i => hv 2 (cq i)) (f + 1) d gone x y mm (w, b, lt)).1 ∧ su_e6 fB1 (su_go nc (fun i => hv 0 (cq i)) (fun i => hv 1 (cq i)) (fun i => hv 2 (cq i)) (f + 1) d gone x y mm (w, b, lt)).2.1 ∧ P' = pm_up (pm_up (pm_up P aY (.inl (ac 0, 6, .inl fY1))) aB (.inl (ac 0, 6, .inl fB1))) h0 (.inr (5, [.ref aC, .ref aY, .ref aB, .int (nI nc), .int ((su_go nc (fun i => hv 0 (cq i)) (fun i => hv 1 (cq i)) (fun i => hv 2 (cq i)) (f + 1) d gone x y mm (w, b, lt)).2.2)])))) ([.ref h0, .int (nI d), .int gone, .int x, .int y, .int mm] : List Value).toArray s ({ frames := (f + 1) + 4, cells := 0, slots := 0, locals := 100 + 28 * ((f + 1)) } : Room).cells ({ frames := (f + 1) + 4, cells := 0, slots := 0, locals := 100 + 28 * ((f + 1)) } : Room).slots (pm_A z)) (F0 m 47 ls []) := by
      intro hsh hnd n
      induction n with
      | zero =>
        intro i hi fY1 fB1 l1 sh Pk H locs ls he1 he2 he3 ePk hw hl
        have hi : i = 6 := by omega
        subst hi
        have k0 : Pk h0 = some (.inr (5, [.ref aC, .ref aY, .ref aB, .int (nI nc), .int l1])) := by rw [ePk]; exact pm_s
        have k1 : Pk aC = some (.inl (ac 3, 6, .inr (.inr (.inr (.inr fC))))) := by rw [ePk, pm_n (pm_ne f1 f0 (by simp)), pm_n (pm_ne f1 f3 (by simp)), pm_n (pm_ne f1 f2 (by simp))]; exact f1
        have k2 : Pk aY = some (.inl (ac 0, 6, .inl fY1)) := by rw [ePk, pm_n hY0, pm_n hYB]; exact pm_s
        have k3 : Pk aB = some (.inl (ac 0, 6, .inl fB1)) := by rw [ePk, pm_n hB0]; exact pm_s
        refine lv_iload hx hb dd_A_goOn_47 (lv_at hl 0 rfl) ?_
        refine lv_aload_n hx hb dd_A_goOn_49 rfl (lv_at hl 2 rfl) ?_
        refine pm_get (ci := 5) (C := cn_A) (T := cf_A) (N := 5) (v := .ref aC) hx hb hg gu_A hown hK.2.1 hw k0 rfl 0 (by decide) (hg _ gf_A_11) (fun _ h9 => h9) rfl dd_A_goOn_50 ?_
        refine pm_alen (v := 6) hx hb hK.2.1 hw 3 k1 rfl rfl dd_A_goOn_53 ?_
        refine lv_icmp_ge (tgt := 131) hx hb dd_A_goOn_54 (by decide) (fun c1 => ?_) (fun c1 => absurd (nI_le (Nat.le_refl 6) (by decide)) c1)
        refine cx_vret hx hb hr hlocks hw dd_A_goOn_131 (Nat.le_of_ble_eq_true rfl) (Nat.le_of_ble_eq_true rfl) ?_
        have hS : su_go nc (fun i => hv 0 (cq i)) (fun i => hv 1 (cq i)) (fun i => hv 2 (cq i)) (f + 1) d gone x y mm (w, b, lt) = su_it nc gone d (fun i => hv 0 (cq i)) (fun i t => su_go nc (fun i => hv 0 (cq i)) (fun i => hv 1 (cq i)) (fun i => hv 2 (cq i)) f (d + 1) (gone ||| ((1 : Int32) <<< (nI i &&& 31))) (hv 1 (cq i)) (hv 2 (cq i)) (mm + su_hose (hv 1 (cq i)) (hv 2 (cq i)) x y) t) (w, b, lt) 6 := (if_pos hsh).trans (if_neg hnd)
        exact ⟨rfl, fY1, fB1, by rw [hS]; exact he1, by rw [hS]; exact he2, by rw [hS, ← he3]; exact ePk⟩
      | succ n ih2 =>
        intro i hi fY1 fB1 l1 sh Pk H locs ls he1 he2 he3 ePk hw hl
        have hlt : i < 6 := by omega
        have hcl : (nI i).toNatClampNeg = i := nI_clamp (by omega)
        have k0 : Pk h0 = some (.inr (5, [.ref aC, .ref aY, .ref aB, .int (nI nc), .int l1])) := by rw [ePk]; exact pm_s
        have k1 : Pk aC = some (.inl (ac 3, 6, .inr (.inr (.inr (.inr fC))))) := by rw [ePk, pm_n (pm_ne f1 f0 (by simp)), pm_n (pm_ne f1 f3 (by simp)), pm_n (pm_ne f1 f2 (by simp))]; exact f1
        have k2 : Pk aY = some (.inl (ac 0, 6, .inl fY1)) := by rw [ePk, pm_n hY0, pm_n hYB]; exact pm_s
        have k3 : Pk aB = some (.inl (ac 0, 6, .inl fB1)) := by rw [ePk, pm_n hB0]; exact pm_s
        refine lv_iload hx hb dd_A_goOn_47 (lv_at hl 0 rfl) ?_
        refine lv_aload_n hx hb dd_A_goOn_49 rfl (lv_at hl 2 rfl) ?_
        refine pm_get (ci := 5) (C := cn_A) (T := cf_A) (N := 5) (v := .ref aC) hx hb hg gu_A hown hK.2.1 hw k0 rfl 0 (by decide) (hg _ gf_A_11) (fun _ h9 => h9) rfl dd_A_goOn_50 ?_
        refine pm_alen (v := 6) hx hb hK.2.1 hw 3 k1 rfl rfl dd_A_goOn_53 ?_
        refine lv_icmp_ge (tgt := 131) hx hb dd_A_goOn_54 (by decide) (fun c2 => absurd c2 (nI_ge hlt (by decide))) (fun c2 => ?_)
        refine lv_aload_n hx hb dd_A_goOn_57 rfl (lv_at hl 2 rfl) ?_
        refine pm_get (ci := 5) (C := cn_A) (T := cf_A) (N := 5) (v := .ref aC) hx hb hg gu_A hown hK.2.1 hw k0 rfl 0 (by decide) (hg _ gf_A_11) (fun _ h9 => h9) rfl dd_A_goOn_58 ?_
        refine lv_iload hx hb dd_A_goOn_61 (lv_at hl 0 rfl) ?_
        refine pm_aald hx hb hK.2.1 hw 3 k1 rfl (vp_in_nI hlt (by decide)) dd_A_goOn_63 ?_
        by_cases hic : i < nc
        · refine W.eq (g2 := F0 m 64 ls [.ref (cq i)]) (by rw [hcl, hC i hlt, if_pos hic]; rfl) ?_
          have fci : Pk (cq i) = some (.inr (1, [.int (hv 0 (cq i)), .int (hv 1 (cq i)), .int (hv 2 (cq i)), .int (hv 3 (cq i)), .int (hv 4 (cq i)), .ref (aw (cq i)), .int (hv 6 (cq i)), .int (hv 7 (cq i)), .int (hv 8 (cq i)), .int (hv 9 (cq i)), va_rf (ct (cq i))])) := by rw [ePk, pm_n (pm_ne (fh i hic) f0 (by simp)), pm_n (pm_ne (fh i hic) f3 (by simp)), pm_n (pm_ne (fh i hic) f2 (by simp))]; exact fh i hic
          refine lv_astore (lv' := [(8, .ref (cq i)), (7, .int (nI i)), (6, .int sh), (0, .ref h0), (1, .int (nI d)), (2, .int gone), (3, .int x), (4, .int y), (5, .int mm)]) hx hb dd_A_goOn_64 hl (by decide) rfl (fun ls hl => ?_)
          refine lv_aload hx hb dd_A_goOn_66 (lv_at hl 0 rfl) ?_
          refine lv_ifnull hx hb dd_A_goOn_68 ?_
          refine lv_iload_n hx hb dd_A_goOn_71 rfl (lv_at hl 5 rfl) ?_
          refine lv_iload hx hb dd_A_goOn_72 (lv_at hl 1 rfl) ?_
          refine lv_iushr hx hb dd_A_goOn_74 rfl ?_
          refine lv_iconst (v := 1) hx hb dd_A_goOn_75 (by decide) ?_
          refine lv_iand hx hb dd_A_goOn_76 ?_
          refine lv_if_ne (tgt := 125) hx hb dd_A_goOn_77 (by decide) (fun c3 => ?_) (fun c3 => ?_)
          · skip
            obtain ⟨x4, ex4⟩ : ∃ y : Int32, y = (nI i) + 1 := ⟨_, rfl⟩
            refine lv_iinc (v := x4) (lv' := [(7, .int x4), (8, .ref (cq i)), (6, .int sh), (0, .ref h0), (1, .int (nI d)), (2, .int gone), (3, .int x), (4, .int y), (5, .int mm)]) hx hb dd_A_goOn_125 hl (k := 1) rfl (by rw [ex4]; rfl) (by decide) rfl (fun ls hl => ?_)
            refine lv_goto (tgt := 47) hx hb dd_A_goOn_128 (by decide) ?_
            have hi7 : x4 = nI (i + 1) := by rw [ex4]; exact nI_1 i
            rw [hi7] at hl
            have hT9 : su_it nc gone d (fun i => hv 0 (cq i)) (fun i t => su_go nc (fun i => hv 0 (cq i)) (fun i => hv 1 (cq i)) (fun i => hv 2 (cq i)) f (d + 1) (gone ||| ((1 : Int32) <<< (nI i &&& 31))) (hv 1 (cq i)) (hv 2 (cq i)) (mm + su_hose (hv 1 (cq i)) (hv 2 (cq i)) x y) t) (w, b, lt) (i + 1) = su_it nc gone d (fun i => hv 0 (cq i)) (fun i t => su_go nc (fun i => hv 0 (cq i)) (fun i => hv 1 (cq i)) (fun i => hv 2 (cq i)) f (d + 1) (gone ||| ((1 : Int32) <<< (nI i &&& 31))) (hv 1 (cq i)) (hv 2 (cq i)) (mm + su_hose (hv 1 (cq i)) (hv 2 (cq i)) x y) t) (w, b, lt) i := if_neg (fun h9 => c3 h9.2)
            exact ih2 (i + 1) (by omega) fY1 fB1 l1 sh Pk H _ ls (by rw [hT9]; exact he1) (by rw [hT9]; exact he2) (by rw [hT9]; exact he3) ePk hw (lv_sub hl [0, 2, 3, 4, 5, 6, 7, 8] rfl)
          · skip
            refine lv_aload_n hx hb dd_A_goOn_80 rfl (lv_at hl 3 rfl) ?_
            refine pm_get (ci := 5) (C := cn_A) (T := cf_A) (N := 5) (v := .ref aY) hx hb hg gu_A hown hK.2.1 hw k0 rfl 1 (by decide) (hg _ gf_A_17) (fun _ h9 => h9) rfl dd_A_goOn_81 ?_
            refine lv_iload_n hx hb dd_A_goOn_84 rfl (lv_at hl 4 rfl) ?_
            refine lv_aload hx hb dd_A_goOn_85 (lv_at hl 0 rfl) ?_
            refine pm_get (ci := 1) (C := cn_H) (T := cf_H) (N := 11) (v := .int (hv 0 (cq i))) hx hb hg gu_H hown hK.2.1 hw fci rfl 0 (by decide) (hg _ gf_A_44) (fun _ h9 => h9) rfl dd_A_goOn_87 ?_
            refine lv_topi (fun x5 ex5 => ?_)
            refine pm_iast (x := x5) hx hb hK.2.1 hw 0 k2 rfl (vp_in_nI hd6 (by decide)) dd_A_goOn_90 (fun H locs hw => ?_)
            have hw : pm_W z D cl_w (pm_up Pk aY (.inl (ac 0, 6, .inl (upd fY1 ((nI d).toNatClampNeg) x5)))) s.heap H _ := hw
            obtain ⟨P6, eP6⟩ : ∃ pmv : pm_T, pmv = pm_up Pk aY (.inl (ac 0, 6, .inl (upd fY1 ((nI d).toNatClampNeg) x5))) := ⟨_, rfl⟩
            rw [← eP6] at hw
            have f7 : P6 h0 = some (.inr (5, [.ref aC, .ref aY, .ref aB, .int (nI nc), .int l1])) := by rw [eP6, pm_n (pm_ne k0 k2 (by simp))]; exact k0
            have f8 : P6 aC = some (.inl (ac 3, 6, .inr (.inr (.inr (.inr fC))))) := by rw [eP6, pm_n (pm_ne k1 k2 (by simp))]; exact k1
            have f9 : P6 aB = some (.inl (ac 0, 6, .inl fB1)) := by rw [eP6, pm_n (Ne.symm hYB)]; exact k3
            have f10 : P6 (cq i) = some (.inr (1, [.int (hv 0 (cq i)), .int (hv 1 (cq i)), .int (hv 2 (cq i)), .int (hv 3 (cq i)), .int (hv 4 (cq i)), .ref (aw (cq i)), .int (hv 6 (cq i)), .int (hv 7 (cq i)), .int (hv 8 (cq i)), .int (hv 9 (cq i)), va_rf (ct (cq i))])) := by rw [eP6, pm_n (pm_ne fci k2 (by simp))]; exact fci
            have f11 : P6 aY = some (.inl (ac 0, 6, .inl (upd fY1 ((nI d).toNatClampNeg) x5))) := by rw [eP6]; exact pm_s
            refine lv_aload_n hx hb dd_A_goOn_91 rfl (lv_at hl 3 rfl) ?_
            refine lv_iload_n hx hb dd_A_goOn_92 rfl (lv_at hl 4 rfl) ?_
            refine lv_iconst (v := 1) hx hb dd_A_goOn_93 (by decide) ?_
            refine lv_iadd hx hb dd_A_goOn_94 ?_
            refine lv_iload_n hx hb dd_A_goOn_95 rfl (lv_at hl 5 rfl) ?_
            refine lv_iconst (v := 1) hx hb dd_A_goOn_96 (by decide) ?_
            refine lv_iload hx hb dd_A_goOn_97 (lv_at hl 1 rfl) ?_
            refine lv_ishl hx hb dd_A_goOn_99 ?_
            refine lv_ior hx hb dd_A_goOn_100 ?_
            refine lv_aload hx hb dd_A_goOn_101 (lv_at hl 0 rfl) ?_
            refine pm_get (ci := 1) (C := cn_H) (T := cf_H) (N := 11) (v := .int (hv 1 (cq i))) hx hb hg gu_H hown hK.2.1 hw f10 rfl 1 (by decide) (hg _ gf_A_47) (fun _ h9 => h9) rfl dd_A_goOn_103 ?_
            refine lv_aload hx hb dd_A_goOn_106 (lv_at hl 0 rfl) ?_
            refine pm_get (ci := 1) (C := cn_H) (T := cf_H) (N := 11) (v := .int (hv 2 (cq i))) hx hb hg gu_H hown hK.2.1 hw f10 rfl 2 (by decide) (hg _ gf_A_50) (fun _ h9 => h9) rfl dd_A_goOn_108 ?_
            refine lv_iload hx hb dd_A_goOn_111 (lv_at hl 8 rfl) ?_
            refine lv_aload hx hb dd_A_goOn_113 (lv_at hl 0 rfl) ?_
            refine lv_iload_n hx hb dd_A_goOn_115 rfl (lv_at hl 6 rfl) ?_
            refine lv_iload hx hb dd_A_goOn_116 (lv_at hl 7 rfl) ?_
            refine cx_after (cx_rV (n := 2) (As := [.int x, .int y]) (rest := [.int mm, .int (hv 2 (cq i)), .int (hv 1 (cq i)), .int (gone ||| ((1 : Int32) <<< ((nI i) &&& 31))), .int ((nI d) + (1 : Int32)), .ref h0]) ⟨hx, hb, hml, hown, hg⟩ (c_H_hoseFrom l z D ac sa P6 (cq i) (aw (cq i)) (hv 0 (cq i)) (hv 1 (cq i)) (hv 2 (cq i)) (hv 3 (cq i)) (hv 4 (cq i)) (hv 6 (cq i)) (hv 7 (cq i)) (hv 8 (cq i)) (hv 9 (cq i)) (ct (cq i)) x y f10) (cx_gv gm_A_53 gi_H_hoseFrom gs_H_hoseFrom gn_H gc_H_hoseFrom) (by decide +kernel) ⟨by first | exact Nat.le_of_ble_eq_true rfl | (dsimp only; omega), by first | exact Nat.le_of_ble_eq_true rfl | (dsimp only; omega)⟩ hK hw f10 rfl rfl hl.1 rfl (Nat.le_of_ble_eq_true rfl) dd_A_goOn_118 ⟨Nat.le_of_ble_eq_true rfl, Nat.le_of_ble_eq_true rfl⟩) hw (fun v9 P9 H locs hp hw => ?_)
            obtain ⟨rfl, e9⟩ := hp
            rw [e9] at hw
            clear e9 P9
            refine W.eq (g2 := F0 m 121 ls [.int (su_hose (hv 1 (cq i)) (hv 2 (cq i)) x y), .int mm, .int (hv 2 (cq i)), .int (hv 1 (cq i)), .int (gone ||| ((1 : Int32) <<< ((nI i) &&& 31))), .int ((nI d) + (1 : Int32)), .ref h0]) rfl ?_
            refine lv_iadd hx hb dd_A_goOn_121 ?_
            refine W.eq (g2 := F0 m 122 ls [.int (mm + (su_hose (hv 1 (cq i)) (hv 2 (cq i)) x y)), .int (hv 2 (cq i)), .int (hv 1 (cq i)), .int (gone ||| ((1 : Int32) <<< ((nI i) &&& 31))), .int (nI (d + 1)), .ref h0]) (by rw [← nI_1]) ?_
            have eX : P6 = pm_up Pk aY (.inl (ac 0, 6, .inl (upd fY1 d (hv 0 (cq i))))) := by rw [eP6, hcd, ex5]
            have k2X : P6 aY = some (.inl (ac 0, 6, .inl (upd fY1 d (hv 0 (cq i))))) := by rw [eX]; exact pm_s
            have fhX : ∀ j, j < nc → P6 (cq j) = some (.inr (1, [.int (hv 0 (cq j)), .int (hv 1 (cq j)), .int (hv 2 (cq j)), .int (hv 3 (cq j)), .int (hv 4 (cq j)), .ref (aw (cq j)), .int (hv 6 (cq j)), .int (hv 7 (cq j)), .int (hv 8 (cq j)), .int (hv 9 (cq j)), va_rf (ct (cq j))])) := fun j hj => by rw [eX, pm_n (pm_ne (fh j hj) f2 (by simp)), ePk, pm_n (pm_ne (fh j hj) f0 (by simp)), pm_n (pm_ne (fh j hj) f3 (by simp)), pm_n (pm_ne (fh j hj) f2 (by simp))]; exact fh j hj
            refine cx_after (cx_rV (n := 5) (As := [.int (nI (d + 1)), .int (gone ||| ((1 : Int32) <<< ((nI i) &&& 31))), .int (hv 1 (cq i)), .int (hv 2 (cq i)), .int (mm + (su_hose (hv 1 (cq i)) (hv 2 (cq i)) x y))]) (rest := []) ⟨hx, hb, hml, hown, hg⟩ (ih (d + 1) (by omega) P6 (gone ||| ((1 : Int32) <<< ((nI i) &&& 31))) (hv 1 (cq i)) (hv 2 (cq i)) (mm + (su_hose (hv 1 (cq i)) (hv 2 (cq i)) x y)) (upd (su_it nc gone d (fun i => hv 0 (cq i)) (fun i t => su_go nc (fun i => hv 0 (cq i)) (fun i => hv 1 (cq i)) (fun i => hv 2 (cq i)) f (d + 1) (gone ||| ((1 : Int32) <<< (nI i &&& 31))) (hv 1 (cq i)) (hv 2 (cq i)) (mm + su_hose (hv 1 (cq i)) (hv 2 (cq i)) x y) t) (w, b, lt) i).1 d (hv 0 (cq i))) (su_it nc gone d (fun i => hv 0 (cq i)) (fun i t => su_go nc (fun i => hv 0 (cq i)) (fun i => hv 1 (cq i)) (fun i => hv 2 (cq i)) f (d + 1) (gone ||| ((1 : Int32) <<< (nI i &&& 31))) (hv 1 (cq i)) (hv 2 (cq i)) (mm + su_hose (hv 1 (cq i)) (hv 2 (cq i)) x y) t) (w, b, lt) i).2.1 (upd fY1 d (hv 0 (cq i))) fB1 l1 (su_e6_up he1) he2 f7 f8 k2X f9 fhX) (cx_gv gm_A_32 gi_A_goOn gs_A_goOn gn_A gc_A_goOn) (by decide +kernel) ⟨by first | exact Nat.le_of_ble_eq_true rfl | (dsimp only; omega), by first | exact Nat.le_of_ble_eq_true rfl | (dsimp only; omega)⟩ hK hw f7 rfl rfl hl.1 rfl (Nat.le_of_ble_eq_true rfl) dd_A_goOn_122 ⟨Nat.le_of_ble_eq_true rfl, Nat.le_of_ble_eq_true rfl⟩) hw (fun v9 P9 H locs hp hw => ?_)
            obtain ⟨rfl, fY2, fB2, h1, h2, e9⟩ := hp
            refine W.eq (g2 := F0 m 125 ls []) rfl ?_
            obtain ⟨x12, ex12⟩ : ∃ y : Int32, y = (nI i) + 1 := ⟨_, rfl⟩
            refine lv_iinc (v := x12) (lv' := [(7, .int x12), (8, .ref (cq i)), (6, .int sh), (0, .ref h0), (1, .int (nI d)), (2, .int gone), (3, .int x), (4, .int y), (5, .int mm)]) hx hb dd_A_goOn_125 hl (k := 1) rfl (by rw [ex12]; rfl) (by decide) rfl (fun ls hl => ?_)
            refine lv_goto (tgt := 47) hx hb dd_A_goOn_128 (by decide) ?_
            have hi7 : x12 = nI (i + 1) := by rw [ex12]; exact nI_1 i
            rw [hi7] at hl
            have hT9 : su_it nc gone d (fun i => hv 0 (cq i)) (fun i t => su_go nc (fun i => hv 0 (cq i)) (fun i => hv 1 (cq i)) (fun i => hv 2 (cq i)) f (d + 1) (gone ||| ((1 : Int32) <<< (nI i &&& 31))) (hv 1 (cq i)) (hv 2 (cq i)) (mm + su_hose (hv 1 (cq i)) (hv 2 (cq i)) x y) t) (w, b, lt) (i + 1) = (fun i t => su_go nc (fun i => hv 0 (cq i)) (fun i => hv 1 (cq i)) (fun i => hv 2 (cq i)) f (d + 1) (gone ||| ((1 : Int32) <<< (nI i &&& 31))) (hv 1 (cq i)) (hv 2 (cq i)) (mm + su_hose (hv 1 (cq i)) (hv 2 (cq i)) x y) t) i (upd (su_it nc gone d (fun i => hv 0 (cq i)) (fun i t => su_go nc (fun i => hv 0 (cq i)) (fun i => hv 1 (cq i)) (fun i => hv 2 (cq i)) f (d + 1) (gone ||| ((1 : Int32) <<< (nI i &&& 31))) (hv 1 (cq i)) (hv 2 (cq i)) (mm + su_hose (hv 1 (cq i)) (hv 2 (cq i)) x y) t) (w, b, lt) i).1 d (hv 0 (cq i)), (su_it nc gone d (fun i => hv 0 (cq i)) (fun i t => su_go nc (fun i => hv 0 (cq i)) (fun i => hv 1 (cq i)) (fun i => hv 2 (cq i)) f (d + 1) (gone ||| ((1 : Int32) <<< (nI i &&& 31))) (hv 1 (cq i)) (hv 2 (cq i)) (mm + su_hose (hv 1 (cq i)) (hv 2 (cq i)) x y) t) (w, b, lt) i).2.1, (su_it nc gone d (fun i => hv 0 (cq i)) (fun i t => su_go nc (fun i => hv 0 (cq i)) (fun i => hv 1 (cq i)) (fun i => hv 2 (cq i)) f (d + 1) (gone ||| ((1 : Int32) <<< (nI i &&& 31))) (hv 1 (cq i)) (hv 2 (cq i)) (mm + su_hose (hv 1 (cq i)) (hv 2 (cq i)) x y) t) (w, b, lt) i).2.2) := if_pos ⟨hic, c3⟩
            rw [he3] at h1 h2 e9
            refine ih2 (i + 1) (by omega) fY2 fB2 _ sh P9 H _ ls (by rw [hT9]; exact h1) (by rw [hT9]; exact h2) rfl ?_ hw (lv_sub hl [0, 2, 3, 4, 5, 6, 7, 8] rfl)
            rw [hT9, e9, eX, pm_uu, ePk, pm_3 hYB hY0 hB0]
        · refine W.eq (g2 := F0 m 64 ls [.null]) (by rw [hcl, hC i hlt, if_neg hic]; rfl) ?_
          refine lv_astoreN (lv' := [(8, .null), (7, .int (nI i)), (6, .int sh), (0, .ref h0), (1, .int (nI d)), (2, .int gone), (3, .int x), (4, .int y), (5, .int mm)]) hx hb dd_A_goOn_64 hl (by decide) rfl (fun ls hl => ?_)
          refine lv_aloadN hx hb dd_A_goOn_66 (lv_at hl 0 rfl) ?_
          refine lv_ifnullN (tgt := 125) hx hb dd_A_goOn_68 (by decide) ?_
          obtain ⟨x13, ex13⟩ : ∃ y : Int32, y = (nI i) + 1 := ⟨_, rfl⟩
          refine lv_iinc (v := x13) (lv' := [(7, .int x13), (8, .null), (6, .int sh), (0, .ref h0), (1, .int (nI d)), (2, .int gone), (3, .int x), (4, .int y), (5, .int mm)]) hx hb dd_A_goOn_125 hl (k := 1) rfl (by rw [ex13]; rfl) (by decide) rfl (fun ls hl => ?_)
          refine lv_goto (tgt := 47) hx hb dd_A_goOn_128 (by decide) ?_
          have hi7 : x13 = nI (i + 1) := by rw [ex13]; exact nI_1 i
          rw [hi7] at hl
          have hT9 : su_it nc gone d (fun i => hv 0 (cq i)) (fun i t => su_go nc (fun i => hv 0 (cq i)) (fun i => hv 1 (cq i)) (fun i => hv 2 (cq i)) f (d + 1) (gone ||| ((1 : Int32) <<< (nI i &&& 31))) (hv 1 (cq i)) (hv 2 (cq i)) (mm + su_hose (hv 1 (cq i)) (hv 2 (cq i)) x y) t) (w, b, lt) (i + 1) = su_it nc gone d (fun i => hv 0 (cq i)) (fun i t => su_go nc (fun i => hv 0 (cq i)) (fun i => hv 1 (cq i)) (fun i => hv 2 (cq i)) f (d + 1) (gone ||| ((1 : Int32) <<< (nI i &&& 31))) (hv 1 (cq i)) (hv 2 (cq i)) (mm + su_hose (hv 1 (cq i)) (hv 2 (cq i)) x y) t) (w, b, lt) i := if_neg (fun h9 => hic h9.1)
          exact ih2 (i + 1) (by omega) fY1 fB1 l1 sh Pk H _ ls (by rw [hT9]; exact he1) (by rw [hT9]; exact he2) (by rw [hT9]; exact he3) ePk hw (lv_sub hl [0, 2, 3, 4, 5, 6, 7, 8] rfl)
    refine lv_iload hx hb dd_A_goOn_0 (lv_at hl 5 rfl) ?_
    refine lv_iload_n hx hb dd_A_goOn_2 rfl (lv_at hl 3 rfl) ?_
    refine lv_iload hx hb dd_A_goOn_3 (lv_at hl 4 rfl) ?_
    refine lv_iconst (v := 0) hx hb dd_A_goOn_5 (by decide) ?_
    refine lv_iconst (v := 0) hx hb dd_A_goOn_6 (by decide) ?_
    refine cx_after (cx_rSN (host := "HydrantRows") (n := 4) (As := [.int x, .int y, .int (0 : Int32), .int (0 : Int32)]) (rest := [.int mm]) ⟨hx, hb, hml, hown, hg⟩ (c_C_hoseLength l z D ac sa P x y (0 : Int32) (0 : Int32)) gc_C_hoseLength (by decide +kernel) gt_C_hoseLength gn_C (by decide +kernel) ⟨by first | exact Nat.le_of_ble_eq_true rfl | (dsimp only; omega), by first | exact Nat.le_of_ble_eq_true rfl | (dsimp only; omega)⟩ hK hw rfl hl.1 rfl (Nat.le_of_ble_eq_true rfl) dd_A_goOn_7 ⟨Nat.le_of_ble_eq_true rfl, Nat.le_of_ble_eq_true rfl⟩) hw (fun v9 P9 H locs hp hw => ?_)
    obtain ⟨rfl, e9⟩ := hp
    rw [e9] at hw
    clear e9 P9
    refine W.eq (g2 := F0 m 10 ls [.int (su_hose x y (0 : Int32) (0 : Int32)), .int mm]) rfl ?_
    refine lv_iadd hx hb dd_A_goOn_10 ?_
    refine lv_topi (fun x14 ex14 => ?_)
    refine lv_istore (lv' := [(6, .int x14), (0, .ref h0), (1, .int (nI d)), (2, .int gone), (3, .int x), (4, .int y), (5, .int mm)]) hx hb dd_A_goOn_11 hl (by decide) rfl (fun ls hl => ?_)
    refine lv_iload hx hb dd_A_goOn_13 (lv_at hl 0 rfl) ?_
    refine lv_aload_n hx hb dd_A_goOn_15 rfl (lv_at hl 1 rfl) ?_
    refine pm_get (ci := 5) (C := cn_A) (T := cf_A) (N := 5) (v := .int lt) hx hb hg gu_A hown hK.2.1 hw f0 rfl 4 (by decide) (hg _ gf_A_28) (fun _ h9 => h9) rfl dd_A_goOn_16 ?_
    refine lv_icmp_lt (tgt := 23) hx hb dd_A_goOn_19 (by decide) (fun c15 => ?_) (fun c15 => ?_)
    · skip
      refine lv_iload_n hx hb dd_A_goOn_23 rfl (lv_at hl 2 rfl) ?_
      refine lv_aload_n hx hb dd_A_goOn_24 rfl (lv_at hl 1 rfl) ?_
      refine pm_get (ci := 5) (C := cn_A) (T := cf_A) (N := 5) (v := .int (nI nc)) hx hb hg gu_A hown hK.2.1 hw f0 rfl 3 (by decide) (hg _ gf_A_24) (fun _ h9 => h9) rfl dd_A_goOn_25 ?_
      refine lv_icmp_ge (tgt := 37) hx hb dd_A_goOn_28 (by decide) (fun c16 => ?_) (fun c16 => ?_)
      · skip
        refine lv_aload_n hx hb dd_A_goOn_37 rfl (lv_at hl 1 rfl) ?_
        refine lv_iload hx hb dd_A_goOn_38 (lv_at hl 0 rfl) ?_
        refine cx_after (cx_rV (n := 1) (As := [.int x14]) (rest := []) ⟨hx, hb, hml, hown, hg⟩ (c_A_keepWay l z D ac sa P h0 aC aY aB (nI nc) lt fY fB x14 hYB f0 f2 f3) (cx_gv gm_A_40 gi_A_keepWay gs_A_keepWay gn_A gc_A_keepWay) (by decide +kernel) ⟨by first | exact Nat.le_of_ble_eq_true rfl | (dsimp only; omega), by first | exact Nat.le_of_ble_eq_true rfl | (dsimp only; omega)⟩ hK hw f0 rfl rfl hl.1 rfl (Nat.le_of_ble_eq_true rfl) dd_A_goOn_40 ⟨Nat.le_of_ble_eq_true rfl, Nat.le_of_ble_eq_true rfl⟩) hw (fun v9 P9 H locs hp hw => ?_)
        obtain ⟨rfl, fD, hD, e9⟩ := hp
        refine W.eq (g2 := F0 m 43 ls []) rfl ?_
        refine cx_vret hx hb hr hlocks hw dd_A_goOn_43 (Nat.le_of_ble_eq_true rfl) (Nat.le_of_ble_eq_true rfl) ?_
        rw [ex14] at c15
        have hnd : nc ≤ d := (nI_leI (by omega) (by omega)).mp c16
        have hS : su_go nc (fun i => hv 0 (cq i)) (fun i => hv 1 (cq i)) (fun i => hv 2 (cq i)) (f + 1) d gone x y mm (w, b, lt) = (w, w, mm + su_hose x y 0 0) := (if_pos c15).trans (if_pos hnd)
        refine ⟨rfl, fY, fD, ?_, ?_, ?_⟩
        · rw [hS]; exact hew
        · rw [hS]; exact fun i hi => (hD i hi).trans (hew i hi)
        · rw [hS, pm_id f2, e9, ex14]
      · skip
        refine lv_iload_n hx hb dd_A_goOn_31 rfl (lv_at hl 2 rfl) ?_
        refine lv_bipush (v := 6) hx hb dd_A_goOn_32 (by decide) ?_
        refine lv_icmp_lt (tgt := 44) hx hb dd_A_goOn_34 (by decide) (fun c17 => ?_) (fun c17 => absurd (nI_lt (b := 6) hd6 (by decide)) c17)
        refine lv_iconst (v := 0) hx hb dd_A_goOn_44 (by decide) ?_
        refine lv_istore (lv' := [(7, .int (0 : Int32)), (6, .int x14), (0, .ref h0), (1, .int (nI d)), (2, .int gone), (3, .int x), (4, .int y), (5, .int mm)]) hx hb dd_A_goOn_45 hl (by decide) rfl (fun ls hl => ?_)
        have hsh : mm + su_hose x y 0 0 < lt := by rw [← ex14]; exact c15
        have hnd : ¬ nc ≤ d := fun h9 => c16 ((nI_leI (by omega) (by omega)).mpr h9)
        exact lp hsh hnd 6 0 (by decide) fY fB lt x14 P _ _ ls hew heb rfl (by rw [pm_id f2, pm_id f3, pm_id f0]) hw (lv_sub hl [0, 1, 2, 3, 4, 5, 6, 7] rfl)
    · skip
      refine cx_vret hx hb hr hlocks hw dd_A_goOn_22 (Nat.le_of_ble_eq_true rfl) (Nat.le_of_ble_eq_true rfl) ?_
      rw [ex14] at c15
      have hS : su_go nc (fun i => hv 0 (cq i)) (fun i => hv 1 (cq i)) (fun i => hv 2 (cq i)) (f + 1) d gone x y mm (w, b, lt) = (w, b, lt) := if_neg c15
      refine ⟨rfl, fY, fB, ?_, ?_, ?_⟩
      · rw [hS]; exact hew
      · rw [hS]; exact heb
      · rw [hS, pm_id f2, pm_id f3, pm_id f0]
