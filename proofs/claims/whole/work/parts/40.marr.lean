def su_dg (c cd i : Nat) : Nat := cd / 6 ^ (c - 1 - i) % 6
def su_og (c cd : Nat) : Prop := (∀ i, i < c → su_dg c cd i < c) ∧ ∀ i j, i < c → j < c → su_dg c cd i = su_dg c cd j → i = j
theorem va_uu {mv : Nat → Nat → Int32} {k : Nat} {f g : Nat → Int32} : va_up (va_up mv k f) k g = va_up mv k g := by
  funext i
  simp only [va_up]
  by_cases h : i = k
  · rw [if_pos h, if_pos h]
  · rw [if_neg h, if_neg h, if_neg h]
theorem va_us {mv : Nat → Nat → Int32} {k : Nat} {f : Nat → Int32} : va_up mv k f k = f := by simp only [va_up, if_true]
theorem va_un {mv : Nat → Nat → Int32} {k i : Nat} {f : Nat → Int32} (h : ¬ i = k) : va_up mv k f i = mv i := by simp only [va_up, if_neg h]
theorem su_bits : ∀ s, s < 64 → ∀ k, k < 6 → ((((nI s >>> (nI k &&& 31)) &&& 1 = 1) ↔ s.testBit k = true) ∧ nI s ||| ((1 : Int32) <<< (nI k &&& 31)) = nI (s ||| 2 ^ k)) := by decide +kernel
theorem su_or64 : ∀ s, s < 64 → ∀ k, k < 6 → s ||| 2 ^ k < 64 := by decide +kernel
theorem su_pred {r : Nat} : nI r + (-1) = nI r - 1 := by rw [Int32.sub_eq_add_neg]

theorem va_id {mv : Nat → Nat → Int32} {k : Nat} : va_up mv k (mv k) = mv := by
  funext i
  simp only [va_up]
  by_cases h : i = k
  · rw [if_pos h, h]
  · rw [if_neg h]

set_option maxHeartbeats 4000000 in
set_option maxRecDepth 100000 in
theorem c_M_arranges (l : Launch) (z : Nat) (D : va_G) (ac : Nat → ClassId) (sa : Nat → Nat) (P : pm_T) (h0 : Nat) (ma : Nat → Nat) (mv : Nat → Nat → Int32) (th al so : Int32) (n t : Nat) (hn40 : n ≤ 40) (ht100 : t ≤ 100) (c9 : Nat) (hc9 : c9 ≤ 6) (cd : Nat) (hcd : cd < 2 ^ 31) (mw : md_W P ac h0 ma mv th (nI n) al (nI t) so)  : cx_M l yy_M_arranges bb_M_arranges 7 (some .boolean) ({ frames := 0, cells := 0, slots := 0, locals := 0 } : Room) z D ac sa P [.ref h0, .int (nI c9), .int (nI cd)] (fun v P' => ∃ f : Nat → Int32, md_W P' ac h0 ma (va_up mv 16 f) th (nI n) al (nI t) so ∧ md_F P P' h0 ma ∧ ((su_og c9 cd ∧ v = some (.int 1) ∧ ∀ i, i < c9 → f i = mv 15 (su_dg c9 cd i)) ∨ (¬ su_og c9 cd ∧ v = some (.int 0)))) := by
  refine cx_ofM (by decide) (Nat.le_of_ble_eq_true rfl) (fun p e s m below meth c ls hx hb hr hml hg hown hlocks hin hK hw hl => ?_)
  have hl : lv_has ls 7 [(0, .ref h0), (1, .int (nI c9)), (2, .int (nI cd))] := hl
  have hown : s.vm.findClass cn_M = some m.cls := hown
  have lp : ∀ (r : Nat), r ≤ c9 → ∀ (i5 : Int32) (sn R9 : Nat) (f : Nat → Int32) (Pk : pm_T) (H : Heap) (locs : List Loc) (ls : Array Slot), i5 = nI r - 1 → R9 = cd / 6 ^ (c9 - r) → sn < 64 → (∀ k, sn.testBit k = true ↔ ∃ i, r ≤ i ∧ i < c9 ∧ su_dg c9 cd i = k) → (∀ i, r ≤ i → i < c9 → su_dg c9 cd i < c9) → (∀ i j, r ≤ i → r ≤ j → i < c9 → j < c9 → su_dg c9 cd i = su_dg c9 cd j → i = j) → (∀ i, r ≤ i → i < c9 → f i = mv 15 (su_dg c9 cd i)) → md_W Pk ac h0 ma (va_up mv 16 f) th (nI n) al (nI t) so → md_F P Pk h0 ma → pm_W z D cl_w Pk s.heap H locs → lv_has ls 7 [(5, .int i5), (4, .int (nI sn)), (3, .int (nI R9)), (0, .ref h0), (1, .int (nI c9)), (2, .int (nI cd))] → W p l e ({ frames := 0, cells := 0, slots := 0, locals := 0 } : Room) s m ([.ref h0, .int (nI c9), .int (nI cd)] : List Value).toArray below meth c H locs 0 0 (MQ below (cx_Q z D (fun v P' => ∃ f : Nat → Int32, md_W P' ac h0 ma (va_up mv 16 f) th (nI n) al (nI t) so ∧ md_F P P' h0 ma ∧ ((su_og c9 cd ∧ v = some (.int 1) ∧ ∀ i, i < c9 → f i = mv 15 (su_dg c9 cd i)) ∨ (¬ su_og c9 cd ∧ v = some (.int 0))))) ([.ref h0, .int (nI c9), .int (nI cd)] : List Value).toArray s ({ frames := 0, cells := 0, slots := 0, locals := 0 } : Room).cells ({ frames := 0, cells := 0, slots := 0, locals := 0 } : Room).slots (pm_A z)) (F0 m 10 ls []) := by
    intro r
    induction r with
    | zero =>
      intro hrc i5 sn R9 f Pk H locs ls e5 eR hsn hbit hdc hdi hfi mwk mfk hw hl
      refine lv_iload hx hb dd_M_arranges_10 (lv_at hl 0 rfl) ?_
      refine lv_if_lt (tgt := 74) hx hb dd_M_arranges_12 (by decide) (fun c31 => ?_) (fun c31 => absurd (by rw [e5]; decide) c31)
      refine lv_iconst (v := 1) hx hb dd_M_arranges_74 (by decide) ?_
      refine cx_iret (v := (1 : Int32)) hx hb hr (by decide) hlocks hw dd_M_arranges_75 (by decide) (by decide) ?_
      exact ⟨f, mwk, mfk, .inl ⟨⟨fun i hi => hdc i (Nat.zero_le i) hi, fun i j hi hj e => hdi i j (Nat.zero_le i) (Nat.zero_le j) hi hj e⟩, rfl, fun i hi => hfi i (Nat.zero_le i) hi⟩⟩
    | succ r ih =>
      intro hrc i5 sn R9 f Pk H locs ls e5 eR hsn hbit hdc hdi hfi mwk mfk hw hl
      rw [nI_pred] at e5
      rw [e5] at hl
      have hR : R9 < 2 ^ 31 := by rw [eR]; exact Nat.lt_of_le_of_lt (Nat.div_le_self _ _) hcd
      have hk6 : R9 % 6 < 6 := Nat.mod_lt _ (by decide)
      have hdg : su_dg c9 cd r = R9 % 6 := by rw [su_dg, eR, show c9 - 1 - r = c9 - (r + 1) from by omega]
      have hbb := su_bits sn hsn (R9 % 6) hk6
      refine lv_iload hx hb dd_M_arranges_10 (lv_at hl 0 rfl) ?_
      refine lv_if_lt (tgt := 74) hx hb dd_M_arranges_12 (by decide) (fun c32 => absurd c32 (nI_pos (by omega))) (fun c32 => ?_)
      refine lv_iload_n hx hb dd_M_arranges_15 rfl (lv_at hl 2 rfl) ?_
      refine lv_bipush (v := 6) hx hb dd_M_arranges_16 (by decide) ?_
      refine lv_irem hx hb dd_M_arranges_18 (by decide) ?_
      refine W.eq (g2 := F0 m 19 ls [.int (nI (R9 % 6))]) (by rw [show ((nI R9) - (nI R9) / (6 : Int32) * (6 : Int32)) = (nI (R9 % 6)) from nI_mod (b := 6) hR (by decide)]) ?_
      refine lv_istore (lv' := [(6, .int (nI (R9 % 6))), (5, .int (nI r)), (4, .int (nI sn)), (3, .int (nI R9)), (0, .ref h0), (1, .int (nI c9)), (2, .int (nI cd))]) hx hb dd_M_arranges_19 hl (by decide) rfl (fun ls hl => ?_)
      refine lv_iload_n hx hb dd_M_arranges_21 rfl (lv_at hl 3 rfl) ?_
      refine lv_bipush (v := 6) hx hb dd_M_arranges_22 (by decide) ?_
      refine lv_idiv hx hb dd_M_arranges_24 (by decide) ?_
      refine W.eq (g2 := F0 m 25 ls [.int (nI (R9 / 6))]) (by rw [show ((nI R9) / (6 : Int32)) = (nI (R9 / 6)) from nI_div (b := 6) hR (by decide)]) ?_
      refine lv_istore_n (lv' := [(3, .int (nI (R9 / 6))), (6, .int (nI (R9 % 6))), (5, .int (nI r)), (4, .int (nI sn)), (0, .ref h0), (1, .int (nI c9)), (2, .int (nI cd))]) hx hb dd_M_arranges_25 rfl hl (by decide) rfl (fun ls hl => ?_)
      refine lv_iload hx hb dd_M_arranges_26 (lv_at hl 1 rfl) ?_
      refine lv_iload_n hx hb dd_M_arranges_28 rfl (lv_at hl 5 rfl) ?_
      refine lv_icmp_ge (tgt := 43) hx hb dd_M_arranges_29 (by decide) (fun c33 => ?_) (fun c33 => ?_)
      · skip
        refine lv_iconst (v := 0) hx hb dd_M_arranges_43 (by decide) ?_
        refine cx_iret (v := (0 : Int32)) hx hb hr (by decide) hlocks hw dd_M_arranges_44 (by decide) (by decide) ?_
        refine ⟨f, mwk, mfk, .inr ⟨fun h => ?_, rfl⟩⟩
        have h1 := h.1 r (by omega)
        rw [hdg] at h1
        rw [nI_leI (by omega) (by omega)] at c33
        omega
      · skip
        refine lv_iload hx hb dd_M_arranges_32 (lv_at hl 3 rfl) ?_
        refine lv_iload hx hb dd_M_arranges_34 (lv_at hl 1 rfl) ?_
        refine lv_ishr hx hb dd_M_arranges_36 ?_
        refine lv_iconst (v := 1) hx hb dd_M_arranges_37 (by decide) ?_
        refine lv_iand hx hb dd_M_arranges_38 ?_
        refine lv_iconst (v := 1) hx hb dd_M_arranges_39 (by decide) ?_
        refine lv_icmp_ne (tgt := 45) hx hb dd_M_arranges_40 (by decide) (fun c34 => ?_) (fun c34 => ?_)
        · skip
          refine lv_iload hx hb dd_M_arranges_45 (lv_at hl 3 rfl) ?_
          refine lv_iconst (v := 1) hx hb dd_M_arranges_47 (by decide) ?_
          refine lv_iload hx hb dd_M_arranges_48 (lv_at hl 1 rfl) ?_
          refine lv_ishl hx hb dd_M_arranges_50 ?_
          refine lv_ior hx hb dd_M_arranges_51 ?_
          refine lv_topi (fun x35 ex35 => ?_)
          refine lv_istore (lv' := [(4, .int x35), (3, .int (nI (R9 / 6))), (6, .int (nI (R9 % 6))), (5, .int (nI r)), (0, .ref h0), (1, .int (nI c9)), (2, .int (nI cd))]) hx hb dd_M_arranges_52 hl (by decide) rfl (fun ls hl => ?_)
          refine lv_aload_n hx hb dd_M_arranges_54 rfl (lv_at hl 4 rfl) ?_
          refine pm_get (ci := 6) (C := cn_M) (T := cf_M) (N := 23) (v := .ref (ma 16)) hx hb hg gu_M hown hK.2.1 hw mwk.1 rfl 21 (by decide) (hg _ gf_M_59) (fun _ h9 => h9) rfl dd_M_arranges_55 ?_
          refine lv_iload hx hb dd_M_arranges_58 (lv_at hl 3 rfl) ?_
          refine lv_aload_n hx hb dd_M_arranges_60 rfl (lv_at hl 4 rfl) ?_
          refine pm_get (ci := 6) (C := cn_M) (T := cf_M) (N := 23) (v := .ref (ma 15)) hx hb hg gu_M hown hK.2.1 hw mwk.1 rfl 20 (by decide) (hg _ gf_M_56) (fun _ h9 => h9) rfl dd_M_arranges_61 ?_
          refine lv_iload hx hb dd_M_arranges_64 (lv_at hl 2 rfl) ?_
          refine pm_iald hx hb hK.2.1 hw 0 (show Pk (ma 15) = some (.inl (ac 0, 6, .inl ((va_up mv 16 f) 15))) from mwk.2.1 15 (by decide)) rfl (vp_in_nI (by omega) (by decide)) dd_M_arranges_66 ?_
          refine W.eq (g2 := F0 m 67 ls [.int (mv 15 (R9 % 6)), .int (nI r), .ref (ma 16)]) (by rw [show (((va_up mv 16 f) 15) ((nI (R9 % 6)).toNatClampNeg)) = (mv 15 (R9 % 6)) from by rw [nI_clamp (by omega)]; rfl]) ?_
          refine lv_topi (fun x36 ex36 => ?_)
          refine pm_iast (x := x36) hx hb hK.2.1 hw 0 (show Pk (ma 16) = some (.inl (ac 0, 6, .inl ((va_up mv 16 f) 16))) from mwk.2.1 16 (by decide)) rfl (vp_in_nI (by omega) (by decide)) dd_M_arranges_67 (fun H locs hw => ?_)
          obtain ⟨P37, eP37⟩ : ∃ pmv : pm_T, pmv = pm_up Pk (ma 16) (md_a ac 16 (upd ((va_up mv 16 f) 16) ((nI r).toNatClampNeg) x36)) := ⟨_, rfl⟩
          have hw : pm_W z D cl_w (pm_up Pk (ma 16) (md_a ac 16 (upd ((va_up mv 16 f) 16) ((nI r).toNatClampNeg) x36))) s.heap H _ := hw
          rw [← eP37] at hw
          have mwP37 : md_W P37 ac h0 ma (va_up (va_up mv 16 f) 16 (upd ((va_up mv 16 f) 16) ((nI r).toNatClampNeg) x36)) th (nI n) al (nI t) so := by rw [eP37]; exact md_W.put mwk 16 (by decide)
          have mfP37 : md_F P P37 h0 ma := by rw [eP37]; exact md_F.put (by decide) mfk
          obtain ⟨x38, ex38⟩ : ∃ y : Int32, y = (nI r) + (-1) := ⟨_, rfl⟩
          refine lv_iinc (v := x38) (lv' := [(5, .int x38), (4, .int x35), (3, .int (nI (R9 / 6))), (6, .int (nI (R9 % 6))), (0, .ref h0), (1, .int (nI c9)), (2, .int (nI cd))]) hx hb dd_M_arranges_68 hl (k := 3) rfl (by rw [ex38]; rfl) (by decide) rfl (fun ls hl => ?_)
          refine lv_goto (tgt := 10) hx hb dd_M_arranges_71 (by decide) ?_
          rw [nI_leI (by omega) (by omega)] at c33
          have hes : x35 = nI (sn ||| 2 ^ (R9 % 6)) := by rw [ex35]; exact hbb.2
          rw [hes] at hl
          rw [va_uu, va_us, nI_clamp (show r < 2 ^ 31 by omega), ex36] at mwP37
          have hnb : ¬ sn.testBit (R9 % 6) = true := fun h => c34 (hbb.1.mpr h)
          refine ih (by omega) x38 (sn ||| 2 ^ (R9 % 6)) (R9 / 6) (upd f r (mv 15 (R9 % 6))) P37 H _ ls (by rw [ex38]; exact su_pred) ?_ (su_or64 _ hsn _ hk6) ?_ ?_ ?_ ?_ mwP37 mfP37 hw (lv_sub hl [0, 1, 2, 4, 5, 6] rfl)
          · rw [eR, Nat.div_div_eq_div_mul, ← Nat.pow_succ, show c9 - r = (c9 - (r + 1)).succ from by omega]
          · intro k
            rw [Nat.testBit_or, Bool.or_eq_true, hbit k, Nat.testBit_two_pow, decide_eq_true_eq]
            constructor
            · rintro (⟨i, h1, h2, h3⟩ | h1)
              · exact ⟨i, by omega, h2, h3⟩
              · exact ⟨r, Nat.le_refl r, by omega, by rw [hdg, h1]⟩
            · rintro ⟨i, h1, h2, h3⟩
              by_cases hir : i = r
              · right; rw [← h3, hir, hdg]
              · left; exact ⟨i, by omega, h2, h3⟩
          · intro i h1 h2
            by_cases hir : i = r
            · rw [hir, hdg]; omega
            · exact hdc i (by omega) h2
          · intro i j h1 h2 h3 h4 h5
            by_cases hir : i = r
            · by_cases hjr : j = r
              · omega
              · exact absurd ((hbit _).mpr ⟨j, by omega, h4, by rw [← h5, hir, hdg]⟩) hnb
            · by_cases hjr : j = r
              · exact absurd ((hbit _).mpr ⟨i, by omega, h3, by rw [h5, hjr, hdg]⟩) hnb
              · exact hdi i j (by omega) (by omega) h3 h4 h5
          · intro i h1 h2
            by_cases hir : i = r
            · rw [hir, pk_us, hdg]
            · rw [pk_un hir]; exact hfi i (by omega) h2
        · skip
          refine lv_iconst (v := 0) hx hb dd_M_arranges_43 (by decide) ?_
          refine cx_iret (v := (0 : Int32)) hx hb hr (by decide) hlocks hw dd_M_arranges_44 (by decide) (by decide) ?_
          refine ⟨f, mwk, mfk, .inr ⟨fun h => ?_, rfl⟩⟩
          obtain ⟨i, h1, h2, h3⟩ := (hbit _).mp (hbb.1.mp c34)
          have h4 := h.2 i r h2 (by omega) (by rw [h3, hdg])
          omega
  refine lv_iload_n hx hb dd_M_arranges_0 rfl (lv_at hl 2 rfl) ?_
  refine lv_istore_n (lv' := [(3, .int (nI cd)), (0, .ref h0), (1, .int (nI c9)), (2, .int (nI cd))]) hx hb dd_M_arranges_1 rfl hl (by decide) rfl (fun ls hl => ?_)
  refine lv_iconst (v := 0) hx hb dd_M_arranges_2 (by decide) ?_
  refine lv_istore (lv' := [(4, .int (0 : Int32)), (3, .int (nI cd)), (0, .ref h0), (1, .int (nI c9)), (2, .int (nI cd))]) hx hb dd_M_arranges_3 hl (by decide) rfl (fun ls hl => ?_)
  refine lv_iload_n hx hb dd_M_arranges_5 rfl (lv_at hl 3 rfl) ?_
  refine lv_iconst (v := 1) hx hb dd_M_arranges_6 (by decide) ?_
  refine lv_isub hx hb dd_M_arranges_7 ?_
  refine lv_topi (fun x39 ex39 => ?_)
  refine lv_istore (lv' := [(5, .int x39), (4, .int (0 : Int32)), (3, .int (nI cd)), (0, .ref h0), (1, .int (nI c9)), (2, .int (nI cd))]) hx hb dd_M_arranges_8 hl (by decide) rfl (fun ls hl => ?_)
  exact lp c9 (Nat.le_refl c9) x39 0 cd (mv 16) P _ _ ls ex39 (by rw [Nat.sub_self, Nat.pow_zero, Nat.div_one]) (by decide) (fun k => by simp; intro i h1 h2; omega) (fun i h1 h2 => by omega) (fun i j h1 _ h2 => by omega) (fun i h1 h2 => by omega) (by rw [va_id]; exact mw) md_F.rf hw (lv_sub hl [0, 1, 2, 3, 4, 5] rfl)
