/-! numbers -/
theorem su_i32 {x : Int32} {k : Int} (h : x.toInt = k) {y : Int32} (h2 : y.toInt = k) : x = y := Int32.toInt_inj.mp (h.trans h2.symm)
theorem nI_mul (a b : Nat) : nI a * nI b = nI (a * b) := (Int32.ofNat_mul a b).symm
theorem nI_sub {a b : Nat} (h : b ≤ a) : nI a - nI b = nI (a - b) := by
  obtain ⟨c, rfl⟩ : ∃ c, a = b + c := ⟨a - b, by omega⟩
  rw [← nI_add, Nat.add_sub_cancel_left, Int32.add_comm, Int32.add_sub_cancel]
theorem su_bm {x : Int} (h1 : -2147483648 ≤ x) (h2 : x ≤ 2147483647) : x.bmod (2 ^ 32) = x := by
  apply Int.bmod_eq_of_le <;> omega
theorem su_ti_add {x y : Int32} (h1 : -2147483648 ≤ x.toInt + y.toInt) (h2 : x.toInt + y.toInt ≤ 2147483647) : (x + y).toInt = x.toInt + y.toInt := by
  rw [Int32.toInt_add]; exact su_bm h1 h2
theorem su_ti_sub {x y : Int32} (h1 : -2147483648 ≤ x.toInt - y.toInt) (h2 : x.toInt - y.toInt ≤ 2147483647) : (x - y).toInt = x.toInt - y.toInt := by
  rw [Int32.toInt_sub]; exact su_bm h1 h2
theorem su_ti_mul {x y : Int32} (h1 : -2147483648 ≤ x.toInt * y.toInt) (h2 : x.toInt * y.toInt ≤ 2147483647) : (x * y).toInt = x.toInt * y.toInt := by
  rw [Int32.toInt_mul]; exact su_bm h1 h2
theorem su_ti_neg {x : Int32} (h1 : -2147483647 ≤ x.toInt) : (-x).toInt = -x.toInt := by
  rw [Int32.toInt_neg]
  have h3 := Int32.toInt_lt x
  exact su_bm (by omega) (by omega)
theorem nI_div {a b : Nat} (ha : a < 2 ^ 31) (hb : b < 2 ^ 31) : nI a / nI b = nI (a / b) := by
  have h1 : a / b < 2 ^ 31 := Nat.lt_of_le_of_lt (Nat.div_le_self a b) ha
  refine su_i32 ?_ (nI_toInt h1)
  rw [Int32.toInt_div, nI_toInt ha, nI_toInt hb, ← Int.ofNat_tdiv]
  generalize a / b = q at h1 ⊢
  exact su_bm (by omega) (by omega)
theorem nI_mod {a b : Nat} (ha : a < 2 ^ 31) (hb : b < 2 ^ 31) : nI a - nI a / nI b * nI b = nI (a % b) := by
  rw [nI_div ha hb, nI_mul, nI_sub (Nat.div_mul_le_self a b)]
  congr 1
  have := Nat.div_add_mod a b
  rw [Nat.mul_comm] at this
  omega
theorem su_ge_nI {x : Int32} (h : 0 ≤ x.toInt) : ∃ j : Nat, j < 2 ^ 31 ∧ x = nI j ∧ x.toInt = j := by
  have h0 : ¬ x < 0 := by
    rw [Int32.lt_iff_toInt_lt]
    have : (0 : Int32).toInt = 0 := by decide
    omega
  obtain ⟨j, hj, e⟩ := nI_of h0
  exact ⟨j, hj, e, by rw [e, nI_toInt hj]⟩
theorem su_ti_lt {x y : Int32} : x < y ↔ x.toInt < y.toInt := Int32.lt_iff_toInt_lt
theorem su_ti_le {x y : Int32} : x ≤ y ↔ x.toInt ≤ y.toInt := Int32.le_iff_toInt_le
/-- a number between two bounds -/
theorem su_in_ti {v : Int32} {b : Nat} (hb : b < 2 ^ 31) (h : ¬ su_in v 0 (nI b) = 0) : ∃ j : Nat, j ≤ b ∧ v = nI j := by
  obtain ⟨h1, h2⟩ := su_in1 h
  obtain ⟨j, hj, rfl⟩ := nI_of h1
  refine ⟨j, ?_, rfl⟩
  rcases Nat.lt_or_ge b j with h3 | h3
  · exact absurd (nI_lt h3 hj) h2
  · exact h3
theorem su_in_1 {v : Int32} {b j : Nat} (hb : b < 2 ^ 31) (hj : j ≤ b) (e : v = nI j) : su_in v 0 (nI b) = 1 := by
  rw [e, su_in, if_neg (nI_pos (by omega)), if_neg (nI_nlt (by omega) (by omega))]
theorem su_in_z {v a b : Int32} : su_in v a b = 0 ∨ su_in v a b = 1 := by
  unfold su_in
  by_cases h1 : v < a
  · rw [if_pos h1]; exact .inl rfl
  · rw [if_neg h1]
    by_cases h2 : b < v
    · rw [if_pos h2]; exact .inl rfl
    · rw [if_neg h2]; exact .inr rfl
/-- Euclid's steps of the model -/
def su_mg : Nat → Int32 → Int32 → Int32
  | 0, a, _ => a
  | k + 1, a, b => if b ≤ 0 then a else su_mg k b (a - a / b * b)
def su_eu : Nat → Nat → Nat → Nat
  | 0, a, _ => a
  | k + 1, a, b => if b = 0 then a else su_eu k b (a % b)
theorem su_eu_gcd : ∀ (k a b : Nat), b < 2 ^ k → su_eu (2 * k + 1) a b = Nat.gcd a b
  | 0, a, b, h => by
    have hb : b = 0 := by omega
    subst hb
    simp [su_eu]
  | k + 1, a, b, h => by
    rw [show 2 * (k + 1) + 1 = (2 * k + 1) + 1 + 1 from by omega]
    show (if b = 0 then a else if a % b = 0 then b else su_eu (2 * k + 1) (a % b) (b % (a % b))) = _
    by_cases hb : b = 0
    · subst hb; simp
    · rw [if_neg hb]
      have g1 : Nat.gcd a b = Nat.gcd b (a % b) := by
        rw [Nat.gcd_comm a b, Nat.gcd_rec b a, Nat.gcd_comm]
      by_cases hc : a % b = 0
      · rw [if_pos hc, g1, hc, Nat.gcd_zero_right]
      · rw [if_neg hc]
        have hlt : a % b < b := Nat.mod_lt _ (by omega)
        have h2 : b % (a % b) < 2 ^ k := by
          have h3 : b % (a % b) < a % b := Nat.mod_lt _ (by omega)
          have h4 : b % (a % b) + (a % b) ≤ b := by
            have h5 := Nat.div_add_mod b (a % b)
            have h6 : 1 ≤ b / (a % b) := (Nat.one_le_div_iff (by omega)).mpr (by omega)
            have h7 : (a % b) * 1 ≤ (a % b) * (b / (a % b)) := Nat.mul_le_mul_left _ h6
            omega
          have : 2 ^ (k + 1) = 2 * 2 ^ k := by rw [Nat.pow_succ]; omega
          omega
        rw [su_eu_gcd k _ _ h2, g1, Nat.gcd_comm b (a % b), Nat.gcd_rec (a % b) b, Nat.gcd_comm]
