/-- what of the hydrants' cells the reads need -/
def hy_W (P : pm_T) (ac : Nat → ClassId) (fH : Nat → Option Nat) (hv tv ov : Nat → Nat → Int32) (aw : Nat → Nat) (ct : Nat → Option Nat) (fw : Nat → Nat → Option Nat) : Prop := ∀ k q, fH k = some q → P q = some (.inr (1, [.int (hv 0 q), .int (hv 1 q), .int (hv 2 q), .int (hv 3 q), .int (hv 4 q), .ref (aw q), .int (hv 6 q), .int (hv 7 q), .int (hv 8 q), .int (hv 9 q), va_rf (ct q)])) ∧ P (aw q) = some (.inl (ac 5, 3, .inr (.inr (.inr (.inr (fw q)))))) ∧ (∀ j o, fw q j = some o → P o = some (.inr (3, [.int (ov 0 o), .int (ov 1 o)]))) ∧ (∀ t, ct q = some t → P t = some (.inr (2, [.int (tv 0 t), .int (tv 1 t), .int (tv 2 t), .int (tv 3 t), .int (tv 4 t), .int (tv 5 t)])))
def hy_is (e : va_E) : Bool := match e with
  | .inr (1, _) => true
  | .inr (2, _) => true
  | .inr (3, _) => true
  | .inl (_, 3, _) => true
  | _ => false
theorem hy_W.up {P : pm_T} {ac : Nat → ClassId} {fH : Nat → Option Nat} {hv tv ov : Nat → Nat → Int32} {aw : Nat → Nat} {ct : Nat → Option Nat} {fw : Nat → Nat → Option Nat} (h : hy_W P ac fH hv tv ov aw ct fw) {a : Nat} {x y : va_E} (he : P a = some x) (hx : hy_is x = false) : hy_W (pm_up P a y) ac fH hv tv ov aw ct fw := by
  have hne : ∀ b w, P b = some w → hy_is w = true → b ≠ a := fun b w hb hw e9 => by
    rw [e9, he] at hb
    cases hb
    rw [hx] at hw
    cases hw
  intro k q hk
  obtain ⟨h1, h2, h3, h4⟩ := h k q hk
  refine ⟨by rw [pm_n (hne _ _ h1 rfl)]; exact h1, by rw [pm_n (hne _ _ h2 rfl)]; exact h2, fun j o ho => ?_, fun t ht => ?_⟩
  · rw [pm_n (hne _ _ (h3 j o ho) rfl)]; exact h3 j o ho
  · rw [pm_n (hne _ _ (h4 t ht) rfl)]; exact h4 t ht
def su_sm (fH : Nat → Option Nat) (ok : Nat → Bool) (gv : Nat → Int32) : Nat → Int32
  | 0 => 0
  | k + 1 => match fH k with
    | none => su_sm fH ok gv k
    | some q => if ok q = true then su_sm fH ok gv k + gv q else su_sm fH ok gv k
/-- a hydrant gives to a main's supply -/
def su_ok (hv ov : Nat → Nat → Int32) (fw : Nat → Nat → Option Nat) (al mn x y d hose : Int32) (q : Nat) : Bool := decide (hv 3 q = mn) && (!decide (hose < su_hose (hv 1 q) (hv 2 q) x y) && !decide (su_us (hv 7 q) (hv 4 q) (hv 8 q) al d (ov 0) (ov 1) (fw q) = 0))

set_option maxHeartbeats 4000000 in
set_option maxRecDepth 100000 in
theorem c_C_supplyOfMain (l : Launch) (z : Nat) (D : va_G) (ac : Nat → ClassId) (sa : Nat → Nat) (P : pm_T) (h0 aH aT aL aK aW : Nat) (nh nt al : Int32) (fH : Nat → Option Nat) (hv tv ov : Nat → Nat → Int32) (aw : Nat → Nat) (ct : Nat → Option Nat) (fw : Nat → Nat → Option Nat) (p1 p2 p3 p4 p5 p6 : Int32) (fy : hy_W P ac fH hv tv ov aw ct fw) (f0 : P h0 = some (.inr (0, [.ref aH, .ref aT, .ref aL, .ref aK, .ref aW, .int nh, .int nt, .int al]))) (f1 : P aH = some (.inl (ac 3, 40, .inr (.inr (.inr (.inr fH)))))) : cx_M l yy_C_supplyOfMain bb_C_supplyOfMain 12 (some .int) ({ frames := 3, cells := 0, slots := 0, locals := 86 } : Room) z D ac sa P [.ref h0, .int p1, .int p2, .int p3, .int p4, .int p5, .int p6] (fun v P' => v = some (.int (su_sm fH (su_ok hv ov fw al p1 p2 p3 p4 p6) (fun q => su_gv (tv 3) (tv 4) (tv 5) (ct q) p5) 40)) ∧ P' = P) := by
  refine cx_ofM (by decide) (Nat.le_of_ble_eq_true rfl) (fun p e s m below meth c ls hx hb hr hml hg hown hlocks hin hK hw hl => ?_)
  have hl : lv_has ls 12 [(0, .ref h0), (1, .int p1), (2, .int p2), (3, .int p3), (4, .int p4), (5, .int p5), (6, .int p6)] := hl
  have hown : s.vm.findClass cn_C = some m.cls := hown
  have lp : ∀ (n k : Nat), k + n = 40 → ∀ (sm : Int32) (H : Heap) (locs : List Loc) (ls : Array Slot), sm = su_sm fH (su_ok hv ov fw al p1 p2 p3 p4 p6) (fun q => su_gv (tv 3) (tv 4) (tv 5) (ct q) p5) k → pm_W z D cl_w P s.heap H locs → lv_has ls 12 [(10, .int (nI k)), (9, .int (40 : Int32)), (8, .ref aH), (7, .int sm), (0, .ref h0), (1, .int p1), (2, .int p2), (3, .int p3), (4, .int p4), (5, .int p5), (6, .int p6)] → W p l e ({ frames := 3, cells := 0, slots := 0, locals := 86 } : Room) s m ([.ref h0, .int p1, .int p2, .int p3, .int p4, .int p5, .int p6] : List Value).toArray below meth c H locs 0 0 (MQ below (cx_Q z D (fun v P' => v = some (.int (su_sm fH (su_ok hv ov fw al p1 p2 p3 p4 p6) (fun q => su_gv (tv 3) (tv 4) (tv 5) (ct q) p5) 40)) ∧ P' = P)) ([.ref h0, .int p1, .int p2, .int p3, .int p4, .int p5, .int p6] : List Value).toArray s ({ frames := 3, cells := 0, slots := 0, locals := 86 } : Room).cells ({ frames := 3, cells := 0, slots := 0, locals := 86 } : Room).slots (pm_A z)) (F0 m 17 ls []) := by
    intro n
    induction n with
    | zero =>
      intro k hk sm H locs ls esm hw hl
      have hk : k = 40 := by omega
      subst hk
      refine lv_iload hx hb dd_C_supplyOfMain_17 (lv_at hl 0 rfl) ?_
      refine lv_iload hx hb dd_C_supplyOfMain_19 (lv_at hl 1 rfl) ?_
      refine lv_icmp_ge (tgt := 89) hx hb dd_C_supplyOfMain_21 (by decide) (fun c1 => ?_) (fun c1 => absurd (nI_le (Nat.le_refl 40) (by decide)) c1)
      refine lv_iload hx hb dd_C_supplyOfMain_89 (lv_at hl 3 rfl) ?_
      refine cx_iret (v := sm) hx hb hr rfl hlocks hw dd_C_supplyOfMain_91 (by decide) (by decide) ?_
      exact ⟨by rw [esm], rfl⟩
    | succ n ih =>
      intro k hk sm H locs ls esm hw hl
      have hlt : k < 40 := by omega
      have hcl : (nI k).toNatClampNeg = k := nI_clamp (by omega)
      refine lv_iload hx hb dd_C_supplyOfMain_17 (lv_at hl 0 rfl) ?_
      refine lv_iload hx hb dd_C_supplyOfMain_19 (lv_at hl 1 rfl) ?_
      refine lv_icmp_ge (tgt := 89) hx hb dd_C_supplyOfMain_21 (by decide) (fun c2 => absurd c2 (nI_ge hlt (by decide))) (fun c2 => ?_)
      refine lv_aload hx hb dd_C_supplyOfMain_24 (lv_at hl 2 rfl) ?_
      refine lv_iload hx hb dd_C_supplyOfMain_26 (lv_at hl 0 rfl) ?_
      refine pm_aald hx hb hK.2.1 hw 3 f1 rfl (vp_in_nI hlt (by decide)) dd_C_supplyOfMain_28 ?_
      refine W.eq (g2 := F0 m 29 ls [va_rf (fH k)]) (by rw [hcl]) ?_
      rcases hq : fH k with _ | q
      · skip
        refine W.eq (g2 := F0 m 29 ls [.null]) rfl ?_
        refine lv_astoreN (lv' := [(11, .null), (10, .int (nI k)), (9, .int (40 : Int32)), (8, .ref aH), (7, .int sm), (0, .ref h0), (1, .int p1), (2, .int p2), (3, .int p3), (4, .int p4), (5, .int p5), (6, .int p6)]) hx hb dd_C_supplyOfMain_29 hl (by decide) rfl (fun ls hl => ?_)
        refine lv_aloadN hx hb dd_C_supplyOfMain_31 (lv_at hl 0 rfl) ?_
        refine lv_ifnullN (tgt := 83) hx hb dd_C_supplyOfMain_33 (by decide) ?_
        obtain ⟨x3, ex3⟩ : ∃ y : Int32, y = (nI k) + 1 := ⟨_, rfl⟩
        refine lv_iinc (v := x3) (lv' := [(10, .int x3), (11, .null), (9, .int (40 : Int32)), (8, .ref aH), (7, .int sm), (0, .ref h0), (1, .int p1), (2, .int p2), (3, .int p3), (4, .int p4), (5, .int p5), (6, .int p6)]) hx hb dd_C_supplyOfMain_83 hl (k := 1) rfl (by rw [ex3]; rfl) (by decide) rfl (fun ls hl => ?_)
        refine lv_goto (tgt := 17) hx hb dd_C_supplyOfMain_86 (by decide) ?_
        have hi : x3 = nI (k + 1) := by rw [ex3]; exact nI_1 k
        rw [hi] at hl
        refine ih (k + 1) (by omega) sm H _ ls ?_ hw (lv_sub hl [0, 2, 3, 4, 5, 6, 7, 8, 9, 10, 11] rfl)
        rw [esm]; simp only [su_sm, hq]
      · skip
        refine W.eq (g2 := F0 m 29 ls [.ref q]) rfl ?_
        obtain ⟨fq, fqw, fo, ft⟩ := fy k q hq
        refine lv_astore (lv' := [(11, .ref q), (10, .int (nI k)), (9, .int (40 : Int32)), (8, .ref aH), (7, .int sm), (0, .ref h0), (1, .int p1), (2, .int p2), (3, .int p3), (4, .int p4), (5, .int p5), (6, .int p6)]) hx hb dd_C_supplyOfMain_29 hl (by decide) rfl (fun ls hl => ?_)
        refine lv_aload hx hb dd_C_supplyOfMain_31 (lv_at hl 0 rfl) ?_
        refine lv_ifnull hx hb dd_C_supplyOfMain_33 ?_
        refine lv_aload hx hb dd_C_supplyOfMain_36 (lv_at hl 0 rfl) ?_
        refine pm_get (ci := 1) (C := cn_H) (T := cf_H) (N := 11) (v := .int (hv 3 q)) hx hb hg gu_H hown hK.2.1 hw fq rfl 3 (by decide) (hg _ gf_C_188) (fun _ h9 => h9) rfl dd_C_supplyOfMain_38 ?_
        refine lv_iload_n hx hb dd_C_supplyOfMain_41 rfl (lv_at hl 6 rfl) ?_
        refine lv_icmp_ne (tgt := 83) hx hb dd_C_supplyOfMain_42 (by decide) (fun c4 => ?_) (fun c4 => ?_)
        · skip
          obtain ⟨x5, ex5⟩ : ∃ y : Int32, y = (nI k) + 1 := ⟨_, rfl⟩
          refine lv_iinc (v := x5) (lv' := [(10, .int x5), (11, .ref q), (9, .int (40 : Int32)), (8, .ref aH), (7, .int sm), (0, .ref h0), (1, .int p1), (2, .int p2), (3, .int p3), (4, .int p4), (5, .int p5), (6, .int p6)]) hx hb dd_C_supplyOfMain_83 hl (k := 1) rfl (by rw [ex5]; rfl) (by decide) rfl (fun ls hl => ?_)
          refine lv_goto (tgt := 17) hx hb dd_C_supplyOfMain_86 (by decide) ?_
          have hi : x5 = nI (k + 1) := by rw [ex5]; exact nI_1 k
          rw [hi] at hl
          refine ih (k + 1) (by omega) sm H _ ls ?_ hw (lv_sub hl [0, 2, 3, 4, 5, 6, 7, 8, 9, 10, 11] rfl)
          have hok : su_ok hv ov fw al p1 p2 p3 p4 p6 q = false := by simp only [su_ok]; simp [c4]
          rw [esm]; simp only [su_sm, hq, hok]; simp
        · skip
          refine lv_aload hx hb dd_C_supplyOfMain_45 (lv_at hl 0 rfl) ?_
          refine lv_iload_n hx hb dd_C_supplyOfMain_47 rfl (lv_at hl 7 rfl) ?_
          refine lv_iload_n hx hb dd_C_supplyOfMain_48 rfl (lv_at hl 8 rfl) ?_
          refine cx_after (cx_rV (n := 2) (As := [.int p2, .int p3]) (rest := []) ⟨hx, hb, hml, hown, hg⟩ (c_H_hoseFrom l z D ac sa P q (aw q) (hv 0 q) (hv 1 q) (hv 2 q) (hv 3 q) (hv 4 q) (hv 6 q) (hv 7 q) (hv 8 q) (hv 9 q) (ct q) p2 p3 fq) (cx_gv gm_C_174 gi_H_hoseFrom gs_H_hoseFrom gn_H gc_H_hoseFrom) (by decide +kernel) ⟨by decide, by decide⟩ hK hw fq rfl rfl hl.1 rfl (Nat.le_of_ble_eq_true rfl) dd_C_supplyOfMain_49 ⟨by decide, by decide⟩) hw (fun v9 P9 H locs hp hw => ?_)
          obtain ⟨rfl, e9⟩ := hp
          rw [e9] at hw
          clear e9 P9
          refine W.eq (g2 := F0 m 52 ls [.int (su_hose (hv 1 q) (hv 2 q) p2 p3)]) rfl ?_
          refine lv_iload hx hb dd_C_supplyOfMain_52 (lv_at hl 11 rfl) ?_
          refine lv_icmp_gt (tgt := 83) hx hb dd_C_supplyOfMain_54 (by decide) (fun c6 => ?_) (fun c6 => ?_)
          · skip
            obtain ⟨x7, ex7⟩ : ∃ y : Int32, y = (nI k) + 1 := ⟨_, rfl⟩
            refine lv_iinc (v := x7) (lv' := [(10, .int x7), (11, .ref q), (9, .int (40 : Int32)), (8, .ref aH), (7, .int sm), (0, .ref h0), (1, .int p1), (2, .int p2), (3, .int p3), (4, .int p4), (5, .int p5), (6, .int p6)]) hx hb dd_C_supplyOfMain_83 hl (k := 1) rfl (by rw [ex7]; rfl) (by decide) rfl (fun ls hl => ?_)
            refine lv_goto (tgt := 17) hx hb dd_C_supplyOfMain_86 (by decide) ?_
            have hi : x7 = nI (k + 1) := by rw [ex7]; exact nI_1 k
            rw [hi] at hl
            refine ih (k + 1) (by omega) sm H _ ls ?_ hw (lv_sub hl [0, 2, 3, 4, 5, 6, 7, 8, 9, 10, 11] rfl)
            have hok : su_ok hv ov fw al p1 p2 p3 p4 p6 q = false := by simp only [su_ok]; simp [c4, c6]
            rw [esm]; simp only [su_sm, hq, hok]; simp
          · skip
            refine lv_aload hx hb dd_C_supplyOfMain_57 (lv_at hl 0 rfl) ?_
            refine lv_iload hx hb dd_C_supplyOfMain_59 (lv_at hl 9 rfl) ?_
            refine lv_aload_n hx hb dd_C_supplyOfMain_61 rfl (lv_at hl 5 rfl) ?_
            refine pm_get (ci := 0) (C := cn_C) (T := cf_C) (N := 8) (v := .int al) hx hb hg gu_C hown hK.2.1 hw f0 rfl 7 (by decide) (hg _ gf_C_46) (fun _ h9 => h9) rfl dd_C_supplyOfMain_62 ?_
            refine cx_after (cx_rV (n := 2) (As := [.int p4, .int al]) (rest := []) ⟨hx, hb, hml, hown, hg⟩ (c_H_isUsable l z D ac sa P q (aw q) (hv 0 q) (hv 1 q) (hv 2 q) (hv 3 q) (hv 4 q) (hv 6 q) (hv 7 q) (hv 8 q) (hv 9 q) (ct q)  (ov 0) (ov 1) (fw q) p4 al fo fq fqw) (cx_gv gm_C_164 gi_H_isUsable gs_H_isUsable gn_H gc_H_isUsable) (by decide +kernel) ⟨by decide, by decide⟩ hK hw fq rfl rfl hl.1 rfl (Nat.le_of_ble_eq_true rfl) dd_C_supplyOfMain_65 ⟨by decide, by decide⟩) hw (fun v9 P9 H locs hp hw => ?_)
            obtain ⟨rfl, e9⟩ := hp
            rw [e9] at hw
            clear e9 P9
            refine W.eq (g2 := F0 m 68 ls [.int (su_us (hv 7 q) (hv 4 q) (hv 8 q) al p4 (ov 0) (ov 1) (fw q))]) rfl ?_
            refine lv_if_eq (tgt := 83) hx hb dd_C_supplyOfMain_68 (by decide) (fun c8 => ?_) (fun c8 => ?_)
            · skip
              obtain ⟨x9, ex9⟩ : ∃ y : Int32, y = (nI k) + 1 := ⟨_, rfl⟩
              refine lv_iinc (v := x9) (lv' := [(10, .int x9), (11, .ref q), (9, .int (40 : Int32)), (8, .ref aH), (7, .int sm), (0, .ref h0), (1, .int p1), (2, .int p2), (3, .int p3), (4, .int p4), (5, .int p5), (6, .int p6)]) hx hb dd_C_supplyOfMain_83 hl (k := 1) rfl (by rw [ex9]; rfl) (by decide) rfl (fun ls hl => ?_)
              refine lv_goto (tgt := 17) hx hb dd_C_supplyOfMain_86 (by decide) ?_
              have hi : x9 = nI (k + 1) := by rw [ex9]; exact nI_1 k
              rw [hi] at hl
              refine ih (k + 1) (by omega) sm H _ ls ?_ hw (lv_sub hl [0, 2, 3, 4, 5, 6, 7, 8, 9, 10, 11] rfl)
              have hok : su_ok hv ov fw al p1 p2 p3 p4 p6 q = false := by simp only [su_ok]; simp [c4, c6, c8]
              rw [esm]; simp only [su_sm, hq, hok]; simp
            · skip
              refine lv_iload hx hb dd_C_supplyOfMain_71 (lv_at hl 4 rfl) ?_
              refine lv_aload hx hb dd_C_supplyOfMain_73 (lv_at hl 0 rfl) ?_
              refine lv_iload hx hb dd_C_supplyOfMain_75 (lv_at hl 10 rfl) ?_
              refine cx_after (cx_rV (n := 1) (As := [.int p5]) (rest := [.int sm]) ⟨hx, hb, hml, hown, hg⟩ (c_H_givenAt l z D ac sa P q (aw q) (hv 0 q) (hv 1 q) (hv 2 q) (hv 3 q) (hv 4 q) (hv 6 q) (hv 7 q) (hv 8 q) (hv 9 q) (ct q) (tv 0) (tv 1) (tv 2) (tv 3) (tv 4) (tv 5) p5 ft fq) (cx_gv gm_C_287 gi_H_givenAt gs_H_givenAt gn_H gc_H_givenAt) (by decide +kernel) ⟨by decide, by decide⟩ hK hw fq rfl rfl hl.1 rfl (Nat.le_of_ble_eq_true rfl) dd_C_supplyOfMain_77 ⟨by decide, by decide⟩) hw (fun v9 P9 H locs hp hw => ?_)
              obtain ⟨rfl, e9⟩ := hp
              rw [e9] at hw
              clear e9 P9
              refine W.eq (g2 := F0 m 80 ls [.int (su_gv (tv 3) (tv 4) (tv 5) (ct q) p5), .int sm]) rfl ?_
              refine lv_iadd hx hb dd_C_supplyOfMain_80 ?_
              refine lv_topi (fun x10 ex10 => ?_)
              refine lv_istore (lv' := [(7, .int x10), (11, .ref q), (10, .int (nI k)), (9, .int (40 : Int32)), (8, .ref aH), (0, .ref h0), (1, .int p1), (2, .int p2), (3, .int p3), (4, .int p4), (5, .int p5), (6, .int p6)]) hx hb dd_C_supplyOfMain_81 hl (by decide) rfl (fun ls hl => ?_)
              obtain ⟨x11, ex11⟩ : ∃ y : Int32, y = (nI k) + 1 := ⟨_, rfl⟩
              refine lv_iinc (v := x11) (lv' := [(10, .int x11), (7, .int x10), (11, .ref q), (9, .int (40 : Int32)), (8, .ref aH), (0, .ref h0), (1, .int p1), (2, .int p2), (3, .int p3), (4, .int p4), (5, .int p5), (6, .int p6)]) hx hb dd_C_supplyOfMain_83 hl (k := 2) rfl (by rw [ex11]; rfl) (by decide) rfl (fun ls hl => ?_)
              refine lv_goto (tgt := 17) hx hb dd_C_supplyOfMain_86 (by decide) ?_
              have hi : x11 = nI (k + 1) := by rw [ex11]; exact nI_1 k
              rw [hi] at hl
              refine ih (k + 1) (by omega) x10 H _ ls ?_ hw (lv_sub hl [0, 3, 4, 1, 5, 6, 7, 8, 9, 10, 11] rfl)
              have hok : su_ok hv ov fw al p1 p2 p3 p4 p6 q = true := by simp only [su_ok]; simp [c4, c6, c8]
              rw [ex10, esm]; simp only [su_sm, hq, hok]; simp
  refine lv_iconst (v := 0) hx hb dd_C_supplyOfMain_0 (by decide) ?_
  refine lv_istore (lv' := [(7, .int (0 : Int32)), (0, .ref h0), (1, .int p1), (2, .int p2), (3, .int p3), (4, .int p4), (5, .int p5), (6, .int p6)]) hx hb dd_C_supplyOfMain_1 hl (by decide) rfl (fun ls hl => ?_)
  refine lv_aload_n hx hb dd_C_supplyOfMain_3 rfl (lv_at hl 1 rfl) ?_
  refine pm_get (ci := 0) (C := cn_C) (T := cf_C) (N := 8) (v := .ref aH) hx hb hg gu_C hown hK.2.1 hw f0 rfl 0 (by decide) (hg _ gf_C_11) (fun _ h9 => h9) rfl dd_C_supplyOfMain_4 ?_
  refine lv_astore (lv' := [(8, .ref aH), (7, .int (0 : Int32)), (0, .ref h0), (1, .int p1), (2, .int p2), (3, .int p3), (4, .int p4), (5, .int p5), (6, .int p6)]) hx hb dd_C_supplyOfMain_7 hl (by decide) rfl (fun ls hl => ?_)
  refine lv_aload hx hb dd_C_supplyOfMain_9 (lv_at hl 0 rfl) ?_
  refine pm_alen (v := 40) hx hb hK.2.1 hw 3 f1 rfl rfl dd_C_supplyOfMain_11 ?_
  refine lv_istore (lv' := [(9, .int (40 : Int32)), (8, .ref aH), (7, .int (0 : Int32)), (0, .ref h0), (1, .int p1), (2, .int p2), (3, .int p3), (4, .int p4), (5, .int p5), (6, .int p6)]) hx hb dd_C_supplyOfMain_12 hl (by decide) rfl (fun ls hl => ?_)
  refine lv_iconst (v := 0) hx hb dd_C_supplyOfMain_14 (by decide) ?_
  refine lv_istore (lv' := [(10, .int (0 : Int32)), (9, .int (40 : Int32)), (8, .ref aH), (7, .int (0 : Int32)), (0, .ref h0), (1, .int p1), (2, .int p2), (3, .int p3), (4, .int p4), (5, .int p5), (6, .int p6)]) hx hb dd_C_supplyOfMain_15 hl (by decide) rfl (fun ls hl => ?_)
  exact lp 40 0 (by decide) 0 _ _ ls rfl hw (lv_sub hl [0, 1, 2, 3, 4, 5, 6, 7, 8, 9, 10] rfl)
