/-! dry months as bits -/
theorem bt_sh : ∀ k, k < 12 → ((nI k).toUInt32 &&& Int32.toUInt32 31).toBitVec % 32 = BitVec.ofNat 32 k := by decide +kernel
theorem bt_1 : ∀ m, m < 12 → ∀ k, k < 12 → ((1 : Int32) <<< (nI m &&& 31)).toBitVec.getLsbD k = decide (k = m) := by decide +kernel
theorem bt_m : ∀ k, k < 12 → (-1 : Int32).toBitVec.getLsbD k = true := by decide +kernel
theorem su_bit_l {w : Int32} {k : Nat} (hk : k < 12) : su_bit w (nI k) = if w.toBitVec.getLsbD k = true then 1 else 0 := by
  apply Int32.toBitVec_inj.mp
  unfold su_bit
  rw [Int32.toBitVec_and]
  have e1 : ((w.toUInt32 >>> ((nI k).toUInt32 &&& Int32.toUInt32 31)).toInt32).toBitVec = w.toBitVec >>> (((nI k).toUInt32 &&& Int32.toUInt32 31).toBitVec % 32) := rfl
  have e2 : (BitVec.ofNat 32 k).toNat = k := by rw [BitVec.toNat_ofNat]; omega
  rw [e1, bt_sh k hk, BitVec.ushiftRight_eq', e2]
  have e3 : (1 : Int32).toBitVec = 1#32 := rfl
  rw [e3]
  apply BitVec.eq_of_getLsbD_eq
  intro j hj
  rw [BitVec.getLsbD_and, BitVec.getLsbD_ushiftRight, BitVec.getLsbD_one]
  rcases Nat.eq_zero_or_pos j with h0 | h0
  · subst h0
    rw [Nat.add_zero]
    by_cases hb : w.toBitVec.getLsbD k = true
    · rw [hb]; rfl
    · rw [Bool.not_eq_true] at hb
      rw [hb]; rfl
  · rw [show decide (j = 0) = false from decide_eq_false (by omega), Bool.and_false, Bool.and_false]
    by_cases hb : w.toBitVec.getLsbD k = true
    · rw [if_pos hb, e3, BitVec.getLsbD_one, show decide (j = 0) = false from decide_eq_false (by omega), Bool.and_false]
    · rw [if_neg hb]
      show false = (0#32).getLsbD j
      simp
theorem su_set_bit {w on : Int32} {m k : Nat} (hm : m < 12) (hk : k < 12) (ho : on = 0 ∨ on = 1) : su_bit (su_set w (nI m) on) (nI k) = if k = m then on else su_bit w (nI k) := by
  rw [su_bit_l hk, su_bit_l hk]
  unfold su_set
  rcases ho with rfl | rfl
  · rw [if_pos rfl, Int32.toBitVec_and, BitVec.getLsbD_and, Int32.toBitVec_xor, BitVec.getLsbD_xor, bt_1 m hm k hk, bt_m k hk]
    by_cases h : k = m
    · rw [if_pos h, decide_eq_true h]
      simp
    · rw [if_neg h, decide_eq_false h]
      simp
  · rw [if_neg (show ¬ (1 : Int32) = 0 by decide), Int32.toBitVec_or, BitVec.getLsbD_or, bt_1 m hm k hk]
    by_cases h : k = m
    · rw [if_pos h, decide_eq_true h]
      simp
    · rw [if_neg h, decide_eq_false h]
      simp
/-! tests of a hydrant -/
theorem su_no_t {oh dy : Nat → Int32} {h : Int32} : ∀ {t : Nat}, (∀ i, i < t → ¬ oh i = h) → su_nct oh h t = 0 ∧ su_cm oh dy h t = none
  | 0, _ => ⟨rfl, rfl⟩
  | t + 1, hn => by
    obtain ⟨h1, h2⟩ := su_no_t (dy := dy) (t := t) (fun i hi => hn i (by omega))
    have h3 := hn t (by omega)
    simp only [su_nct, su_cm, if_neg h3]
    exact ⟨h1, h2⟩
theorem su_nct_cg {oh oh1 : Nat → Int32} {h : Int32} : ∀ {t : Nat}, (∀ i, i < t → oh i = oh1 i) → su_nct oh h t = su_nct oh1 h t
  | 0, _ => rfl
  | t + 1, hn => by
    simp only [su_nct, hn t (by omega), su_nct_cg (t := t) (fun i hi => hn i (by omega))]
theorem su_cm_cg {oh oh1 dy dy1 : Nat → Int32} {h : Int32} : ∀ {t : Nat}, (∀ i, i < t → oh i = oh1 i ∧ dy i = dy1 i) → su_cm oh dy h t = su_cm oh1 dy1 h t
  | 0, _ => rfl
  | t + 1, hn => by
    have ih := su_cm_cg (h := h) (t := t) (fun i hi => hn i (by omega))
    simp only [su_cm, (hn t (by omega)).1, ih]
    rcases hq : su_cm oh1 dy1 h t with _ | j
    · rfl
    · have hj := su_cm_lt hq
      simp only [(hn t (by omega)).2, (hn j (by omega)).2]
