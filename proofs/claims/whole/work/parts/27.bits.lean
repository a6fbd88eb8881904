theorem wb_tb (n : Nat) : (lN n).toBitVec = BitVec.ofNat 64 n := rfl
theorem wb_inj {a b : Int64} (h : a.toBitVec = b.toBitVec) : a = b := Int64.toBitVec_inj.mp h
theorem wb_tn {n : Nat} (h : n < 2 ^ 64) : (lN n).toBitVec.toNat = n := by rw [wb_tb, BitVec.toNat_ofNat, Nat.mod_eq_of_lt h]
theorem wb_of (x : Int64) : ∃ n, n < 2 ^ 64 ∧ x = lN n := ⟨x.toBitVec.toNat, x.toBitVec.isLt, wb_inj (by rw [wb_tb]; simp)⟩
theorem wb_of32 (x : Int32) : ∃ n, n < 2 ^ 32 ∧ x = nI n := ⟨x.toBitVec.toNat, x.toBitVec.isLt, Int32.toBitVec_inj.mp (by show _ = BitVec.ofNat 32 _; simp)⟩
theorem wb_c : ∀ k, k < 64 → ((nI k).toInt64 &&& 63) = lN k := by decide +kernel
theorem wb_cu : ∀ k, k < 64 → ((nI k).toInt64.toUInt64 &&& Int64.toUInt64 63) = UInt64.ofNat k := by decide +kernel
theorem wb_sm : ∀ k, k < 64 → (BitVec.ofNat 64 k).smod 64 = BitVec.ofNat 64 k := by decide +kernel
theorem wb_pw {a b : Nat} (h : a ≤ b) : 2 ^ b = 2 ^ a * 2 ^ (b - a) := by rw [← Nat.pow_add]; congr 1; omega
theorem wb_lt2 {a b : Nat} (h : a < b) : 2 ^ a < 2 ^ b := Nat.pow_lt_pow_right (by decide) h
theorem wb_mod (n : Nat) : lN n = lN (n % 2 ^ 64) := wb_inj (by rw [wb_tb, wb_tb]; apply BitVec.eq_of_toNat_eq; rw [BitVec.toNat_ofNat, BitVec.toNat_ofNat, Nat.mod_mod])
theorem wb_shr {n k : Nat} (hn : n < 2 ^ 64) (hk : k < 64) : ((lN n).toUInt64 >>> ((nI k).toInt64.toUInt64 &&& Int64.toUInt64 63)).toInt64 = lN (n / 2 ^ k) := by
  rw [wb_cu k hk]
  apply wb_inj
  apply BitVec.eq_of_toNat_eq
  show ((lN n).toUInt64 >>> UInt64.ofNat k).toNat = (BitVec.ofNat 64 _).toNat
  have h1 : (UInt64.ofNat k).toNat = k := by
    show (BitVec.ofNat 64 k).toNat = k
    rw [BitVec.toNat_ofNat, Nat.mod_eq_of_lt (by omega)]
  have h2 : (lN n).toUInt64.toNat = n := wb_tn hn
  rw [UInt64.toNat_shiftRight, h1, h2, Nat.mod_eq_of_lt hk, Nat.shiftRight_eq_div_pow, BitVec.toNat_ofNat, Nat.mod_eq_of_lt (Nat.lt_of_le_of_lt (Nat.div_le_self _ _) hn)]
theorem wb_shl (n : Nat) {k : Nat} (hk : k < 64) : lN n <<< ((nI k).toInt64 &&& 63) = lN (n * 2 ^ k) := by
  rw [wb_c k hk]
  apply wb_inj
  rw [Int64.toBitVec_shiftLeft, wb_tb, wb_tb, wb_tb, wb_sm k hk]
  apply BitVec.eq_of_toNat_eq
  rw [BitVec.shiftLeft_eq', BitVec.toNat_shiftLeft, BitVec.toNat_ofNat, BitVec.toNat_ofNat, BitVec.toNat_ofNat, Nat.mod_eq_of_lt (show k < 2 ^ 64 by omega), Nat.shiftLeft_eq, Nat.mul_mod, Nat.mod_mod, ← Nat.mul_mod]
theorem wb_and {a b : Nat} (ha : a < 2 ^ 64) (hb : b < 2 ^ 64) : lN a &&& lN b = lN (a &&& b) := by
  apply wb_inj
  rw [Int64.toBitVec_and, wb_tb, wb_tb, wb_tb]
  apply BitVec.eq_of_toNat_eq
  rw [BitVec.toNat_and, BitVec.toNat_ofNat, BitVec.toNat_ofNat, BitVec.toNat_ofNat, Nat.mod_eq_of_lt ha, Nat.mod_eq_of_lt hb, Nat.mod_eq_of_lt (Nat.and_lt_two_pow _ hb)]
theorem wb_or {a b : Nat} (ha : a < 2 ^ 64) (hb : b < 2 ^ 64) : lN a ||| lN b = lN (a ||| b) := by
  apply wb_inj
  rw [Int64.toBitVec_or, wb_tb, wb_tb, wb_tb]
  apply BitVec.eq_of_toNat_eq
  rw [BitVec.toNat_or, BitVec.toNat_ofNat, BitVec.toNat_ofNat, BitVec.toNat_ofNat, Nat.mod_eq_of_lt ha, Nat.mod_eq_of_lt hb, Nat.mod_eq_of_lt (Nat.or_lt_two_pow ha hb)]
theorem wb_mask {n k : Nat} (hn : n < 2 ^ 64) (hk : k < 64) : lN n &&& lN (2 ^ k - 1) = lN (n % 2 ^ k) := by
  rw [wb_and hn (by have := wb_lt2 hk; omega), Nat.and_two_pow_sub_one_eq_mod]
theorem wb_a1 {n : Nat} (hn : n < 2 ^ 64) : lN n &&& 1 = lN (n % 2) := wb_mask (k := 1) hn (by decide)
theorem wb_bit {n k : Nat} (hn : n < 2 ^ 64) (hk : k < 64) : ((lN n).toUInt64 >>> ((nI k).toInt64.toUInt64 &&& Int64.toUInt64 63)).toInt64 &&& 1 = lN (n / 2 ^ k % 2) := by
  rw [wb_shr hn hk, wb_a1 (Nat.lt_of_le_of_lt (Nat.div_le_self _ _) hn)]
/-! the hydrants that a round's long tells -/
def bn (h : Int64) (i : Nat) : Nat := h.toBitVec.toNat / 2 ^ (6 * i) % 64
theorem bn_lt (h : Int64) (i : Nat) : bn h i < 64 := Nat.mod_lt _ (by decide)
theorem su_told_bn {h : Int64} {i : Nat} (hi : i < 6) : su_told h (nI i) = nI (bn h i) := by
  obtain ⟨n, hn, rfl⟩ := wb_of h
  unfold su_told bn
  have e1 : (6 : Int32) * nI i = nI (6 * i) := by rw [show (6 : Int32) = nI 6 from rfl, pk_mul]
  have e2 : n / 2 ^ (6 * i) < 2 ^ 64 := Nat.lt_of_le_of_lt (Nat.div_le_self _ _) hn
  rw [e1, wb_shr hn (by omega), wb_tn hn, show (63 : Int64) = lN (2 ^ 6 - 1) from rfl, wb_mask e2 (by decide), lN_i]
theorem su_bt_bn {h : Int64} {i : Nat} (hi : i < 6) : su_bt h i = lN (2 ^ bn h i) := by
  unfold su_bt
  rw [su_told_bn hi, show (1 : Int64) = lN 1 from rfl, wb_shl 1 (bn_lt h i), Nat.one_mul]
def su_sn (h : Int64) : Nat → Option Nat
  | 0 => some 0
  | i + 1 => match su_sn h i with
    | none => none
    | some s => if s.testBit (bn h i) = true then none else some (s ||| 2 ^ bn h i)
theorem su_sn_lt {h : Int64} : ∀ {i s : Nat}, su_sn h i = some s → s < 2 ^ 64
  | 0, s, hs => by cases hs; decide
  | i + 1, s, hs => by
    simp only [su_sn] at hs
    rcases hq : su_sn h i with _ | s0
    · rw [hq] at hs; cases hs
    · rw [hq] at hs
      by_cases hb : s0.testBit (bn h i) = true
      · simp only [hb, if_true] at hs; cases hs
      · simp only [hb] at hs
        cases hs
        exact Nat.or_lt_two_pow (su_sn_lt hq) (Nat.pow_lt_pow_right (by decide) (bn_lt h i))
theorem and_pow0 (s b : Nat) : s &&& 2 ^ b = 0 ↔ s.testBit b = false := by
  constructor
  · intro h
    have h1 : (s &&& 2 ^ b).testBit b = false := by rw [h]; simp
    rw [Nat.testBit_and, Nat.testBit_two_pow_self, Bool.and_true] at h1
    exact h1
  · intro h
    apply Nat.eq_of_testBit_eq
    intro j
    rw [Nat.testBit_and, Nat.testBit_two_pow, Nat.zero_testBit]
    by_cases hj : b = j
    · subst hj; rw [h]; rfl
    · rw [decide_eq_false hj, Bool.and_false]
theorem lN_z {n : Nat} (hn : n < 2 ^ 64) : lN n = 0 ↔ n = 0 := by
  constructor
  · intro h
    have h1 := wb_tn hn
    rw [h] at h1
    exact h1.symm
  · intro h; rw [h]; rfl
theorem su_ss_sn (h : Int64) : ∀ i, i ≤ 6 → su_ss h i = (su_sn h i).map lN
  | 0, _ => rfl
  | i + 1, hi => by
    have ih := su_ss_sn h i (by omega)
    rcases hq : su_sn h i with _ | s
    · rw [hq] at ih
      simp only [su_ss, su_sn, ih, hq, Option.map_none]
    · rw [hq] at ih
      have hs := su_sn_lt hq
      have h2 : 2 ^ bn h i < 2 ^ 64 := Nat.pow_lt_pow_right (by decide) (bn_lt h i)
      have e1 : lN s &&& lN (2 ^ bn h i) = lN (s &&& 2 ^ bn h i) := wb_and hs h2
      have e2 : s &&& 2 ^ bn h i < 2 ^ 64 := Nat.and_lt_two_pow _ h2
      simp only [su_ss, su_sn, ih, hq, Option.map_some, su_bt_bn (show i < 6 by omega), e1, wb_or hs h2]
      by_cases hb : s.testBit (bn h i) = true
      · have h3 : ¬ lg_cmp (lN (s &&& 2 ^ bn h i)) 0 = 0 := by
          rw [lg_cmp_eq, lN_z e2, and_pow0, hb]
          decide
        rw [if_neg h3, if_pos hb, Option.map_none]
      · have h3 : lg_cmp (lN (s &&& 2 ^ bn h i)) 0 = 0 := by
          rw [lg_cmp_eq, lN_z e2, and_pow0]
          exact Bool.not_eq_true _ ▸ hb
        rw [if_pos h3, if_neg hb, Option.map_some]
theorem su_sn_bit {h : Int64} : ∀ {t s : Nat}, su_sn h t = some s → ∀ j, s.testBit j = true ↔ ∃ i, i < t ∧ bn h i = j
  | 0, s, hs, j => by
    cases hs
    simp
  | t + 1, s, hs, j => by
    simp only [su_sn] at hs
    rcases hq : su_sn h t with _ | s0
    · rw [hq] at hs; cases hs
    · rw [hq] at hs
      by_cases hb : s0.testBit (bn h t) = true
      · simp only [hb, if_true] at hs; cases hs
      · simp only [hb] at hs
        cases hs
        rw [Nat.testBit_or, Bool.or_eq_true, su_sn_bit hq j, Nat.testBit_two_pow, decide_eq_true_eq]
        constructor
        · rintro (⟨i, h1, h2⟩ | h1)
          · exact ⟨i, by omega, h2⟩
          · exact ⟨t, by omega, h1⟩
        · rintro ⟨i, h1, h2⟩
          by_cases hi : i = t
          · right; rw [← hi]; exact h2
          · left; exact ⟨i, by omega, h2⟩
def su_tb (S : Int64) (n : Int32) : Int32 := lg_cmp ((S.toUInt64 >>> (n.toInt64.toUInt64 &&& Int64.toUInt64 63)).toInt64 &&& 1) 0
theorem su_tb_bit {s j : Nat} (hs : s < 2 ^ 64) (hj : j < 64) : su_tb (lN s) (nI j) = 0 ↔ s.testBit j = false := by
  unfold su_tb
  have h2 : s / 2 ^ j % 2 < 2 := Nat.mod_lt _ (by decide)
  rw [wb_bit hs hj, lg_cmp_eq, lN_z (by omega), Nat.testBit_eq_decide_div_mod_eq]
  constructor
  · intro h; rw [h]; rfl
  · intro h
    have h3 := of_decide_eq_false h
    omega
def su_sl (fH : Nat → Option Nat) (S : Int64) (num : Nat → Int32) : Nat → List Nat
  | 0 => []
  | k + 1 => match fH k with
    | none => su_sl fH S num k
    | some q => if su_tb S (num q) = 0 then su_sl fH S num k else su_sl fH S num k ++ [q]
def su_c2 (p : Nat → Bool) : Nat → Nat
  | 0 => 0
  | k + 1 => su_c2 p k + (if p k = true then 1 else 0)
theorem su_c2_or (s b : Nat) : ∀ k, su_c2 (s ||| 2 ^ b).testBit k ≤ su_c2 s.testBit k + (if b < k then 1 else 0)
  | 0 => by simp [su_c2]
  | k + 1 => by
    have ih := su_c2_or s b k
    simp only [su_c2, Nat.testBit_or, Nat.testBit_two_pow]
    by_cases hk : b = k
    · subst hk
      rw [if_neg (Nat.lt_irrefl b)] at ih
      rw [if_pos (Nat.lt_succ_self b)]
      by_cases h1 : s.testBit b = true <;> simp [h1] <;> omega
    · have e1 : decide (b = k) = false := decide_eq_false hk
      rw [e1, Bool.or_false]
      by_cases hlt : b < k
      · rw [if_pos hlt] at ih
        rw [if_pos (show b < k + 1 by omega)]
        omega
      · rw [if_neg hlt] at ih
        rw [if_neg (show ¬ b < k + 1 by omega)]
        omega
theorem su_c2_0 : ∀ k, su_c2 (Nat.testBit 0) k = 0
  | 0 => rfl
  | k + 1 => by simp [su_c2, su_c2_0 k]
theorem su_c2_sn {h : Int64} : ∀ {t s : Nat}, su_sn h t = some s → ∀ k, su_c2 s.testBit k ≤ t
  | 0, s, hs, k => by cases hs; rw [su_c2_0]; exact Nat.le_refl 0
  | t + 1, s, hs, k => by
    simp only [su_sn] at hs
    rcases hq : su_sn h t with _ | s0
    · rw [hq] at hs; cases hs
    · rw [hq] at hs
      by_cases hb : s0.testBit (bn h t) = true
      · simp only [hb, if_true] at hs; cases hs
      · simp only [hb] at hs
        cases hs
        have h1 := su_c2_or s0 (bn h t) k
        have h2 := su_c2_sn hq k
        by_cases h3 : bn h t < k
        · rw [if_pos h3] at h1; omega
        · rw [if_neg h3] at h1; omega
theorem su_sl_len {fH : Nat → Option Nat} {num : Nat → Int32} {s : Nat} (hs : s < 2 ^ 64) (hnum : ∀ k q, fH k = some q → num q = nI k) : ∀ k, k ≤ 40 → (su_sl fH (lN s) num k).length ≤ su_c2 s.testBit k
  | 0, _ => Nat.le_refl 0
  | k + 1, hk => by
    have ih := su_sl_len hs hnum k (by omega)
    rcases hq : fH k with _ | q
    · simp only [su_sl, hq, su_c2]; omega
    · simp only [su_sl, hq, su_c2, hnum k q hq]
      by_cases h1 : su_tb (lN s) (nI k) = 0
      · rw [if_pos h1]; omega
      · rw [if_neg h1]
        have h2 : s.testBit k = true := by
          rcases h3 : s.testBit k with _ | _
          · exact absurd ((su_tb_bit hs (by omega)).mpr h3) h1
          · rfl
        rw [if_pos h2, List.length_append, List.length_singleton]
        omega
/-- the chosen ones are at most t -/
theorem su_sl_le {h : Int64} {t : Nat} {S : Int64} {fH : Nat → Option Nat} {num : Nat → Int32} (ht : t ≤ 6) (hS : su_ss h t = some S) (hnum : ∀ k q, fH k = some q → num q = nI k) (k : Nat) (hk : k ≤ 40) : (su_sl fH S num k).length ≤ t := by
  rw [su_ss_sn h t ht] at hS
  rcases hq : su_sn h t with _ | s
  · rw [hq] at hS; cases hS
  · rw [hq] at hS
    cases hS
    exact Nat.le_trans (su_sl_len (su_sn_lt hq) hnum k hk) (su_c2_sn hq k)
theorem su_sl_step {fH : Nat → Option Nat} {S : Int64} {num : Nat → Int32} {k q : Nat} (hq : fH k = some q) (h : ¬ su_tb S (num q) = 0) : su_sl fH S num (k + 1) = su_sl fH S num k ++ [q] := by
  simp only [su_sl, hq]; exact if_neg h
