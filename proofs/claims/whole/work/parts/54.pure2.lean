/-! flows on both sides -/
theorem su_eu_big : ∀ (k a b : Nat), b ≤ k → su_eu k a b = Nat.gcd a b
  | 0, a, b, h => by
    have hb : b = 0 := by omega
    subst hb
    simp [su_eu]
  | k + 1, a, b, h => by
    show (if b = 0 then a else su_eu k b (a % b)) = _
    by_cases hb : b = 0
    · subst hb; simp
    · rw [if_neg hb, su_eu_big k b (a % b) (by have := Nat.mod_lt a (show b > 0 by omega); omega), Nat.gcd_comm a b, Nat.gcd_rec b a, Nat.gcd_comm]
theorem su_eu_64 {a b : Nat} (hb : b < 2 ^ 31) : su_eu 64 a b = Nat.gcd a b := by
  show (if b = 0 then a else su_eu 63 b (a % b)) = _
  by_cases h0 : b = 0
  · subst h0; simp
  · have h1 := Nat.mod_lt a (show b > 0 by omega)
    rw [if_neg h0, su_eu_gcd 31 b (a % b) (by omega), Nat.gcd_comm a b, Nat.gcd_rec b a, Nat.gcd_comm]
theorem su_gc_eu : ∀ (k a b : Nat), a < 2 ^ 31 → b < 2 ^ 31 → su_gc k (nI a) (nI b) = nI (su_eu k a b)
  | 0, a, b, _, _ => rfl
  | k + 1, a, b, ha, hb => by
    show (if nI b = 0 then nI a else su_gc k (nI b) (nI a - nI a / nI b * nI b)) = nI (if b = 0 then a else su_eu k b (a % b))
    by_cases h0 : b = 0
    · subst h0; rfl
    · rw [if_neg h0, if_neg (nI_ne0 (by omega) hb), nI_mod ha hb, su_gc_eu k b (a % b) hb (by have := Nat.mod_lt a (show b > 0 by omega); omega)]
theorem su_mg_eu : ∀ (k a b : Nat), a < 2 ^ 31 → b < 2 ^ 31 → su_mg k (nI a) (nI b) = nI (su_eu k a b)
  | 0, a, b, _, _ => rfl
  | k + 1, a, b, ha, hb => by
    show (if nI b ≤ 0 then nI a else su_mg k (nI b) (nI a - nI a / nI b * nI b)) = nI (if b = 0 then a else su_eu k b (a % b))
    by_cases h0 : b = 0
    · subst h0; rfl
    · rw [if_neg h0, if_neg (nI_nle (by omega) hb), nI_mod ha hb, su_mg_eu k b (a % b) hb (by have := Nat.mod_lt a (show b > 0 by omega); omega)]
section FL
variable {n t : Nat} {al so : Int32} {mv : Nat → Nat → Int32}
/-- a test's numbers at a pressure -/
theorem iv_num (hB : iv_B n t al so mv) {i : Nat} (hi : i < t) {p : Int32} (hp : ¬ p < 0) : (∃ U, U ≤ 40000000 ∧ su_mup mv i p = nI U) ∧ (¬ su_lo (mv 12 i) (mv 14 i) p ≤ 0 ↔ ¬ su_mct mv i p = 0) ∧ (¬ su_mct mv i p = 0 → ∃ L, 0 < L ∧ L ≤ 2000 ∧ su_mdn mv i p = nI L) := by
  obtain ⟨-, ⟨r, hr, er⟩, ⟨f, hf, ef⟩, ⟨l, hl, el⟩⟩ := hB.2.2.2.2.1 i hi
  obtain ⟨q, hq, rfl⟩ := nI_of hp
  have hlr : l ≤ r := by
    have := hB.2.2.2.2.2.1 i hi
    rw [er, el, nI_leI (by omega) (by omega)] at this
    exact this
  simp only [su_mup, su_mct, su_mdn, su_lo, er, ef, el]
  by_cases h : q < r
  · have h1 : nI q < nI r := nI_lt h (by omega)
    have h2 : ¬ nI r ≤ nI q := nI_ge h (by omega)
    simp only [if_pos h1, if_neg h2]
    rw [nI_sub (by omega), nI_sub (by omega), nI_mul]
    refine ⟨⟨f * (r - q), ?_, rfl⟩, ?_, ?_⟩
    · have : f * (r - q) ≤ 20000 * 2000 := Nat.mul_le_mul hf (by omega)
      omega
    · by_cases h3 : r ≤ l
      · rw [if_pos (nI_le h3 (by omega)), show r - l = 0 from by omega]
        exact ⟨fun h4 => absurd (by decide) h4, fun h4 => absurd rfl h4⟩
      · rw [if_neg (nI_ge (by omega) (by omega))]
        exact ⟨fun _ => by decide, fun _ => nI_nle (by omega) (by omega)⟩
    · intro h3
      by_cases h4 : r ≤ l
      · rw [if_pos (nI_le h4 (by omega))] at h3; exact absurd rfl h3
      · exact ⟨r - l, by omega, by omega, rfl⟩
  · have h1 : ¬ nI q < nI r := nI_nlt (by omega) hq
    have h2 : nI r ≤ nI q := nI_le (by omega) hq
    simp only [if_neg h1, if_pos h2]
    exact ⟨⟨0, by omega, rfl⟩, ⟨fun _ => by decide, fun _ => by decide⟩, fun _ => ⟨1, by omega, by omega, rfl⟩⟩
theorem iv_wh (hB : iv_B n t al so mv) {i : Nat} (hi : i < t) {p : Int32} (hp : ¬ p < 0) (h : ¬ su_mct mv i p = 0) : su_wh (mv 12 i) (mv 13 i) (mv 14 i) p = su_mup mv i p / su_mdn mv i p := by
  have h1 := (iv_num hB hi hp).2.1.mpr h
  rw [su_wh, if_neg h1]
  rfl
theorem iv_flw (hB : iv_B n t al so mv) {i : Nat} (hi : i < t) {p w : Int32} (hp : ¬ p < 0) (h : ¬ su_mct mv i p = 0) : su_flw (mv 12 i) (mv 13 i) (mv 14 i) p w = su_mfl mv i p w := by
  obtain ⟨⟨U, hU, eU⟩, -, h3⟩ := iv_num hB hi hp
  obtain ⟨L, hL0, hL, eL⟩ := h3 h
  have e1 : su_up (mv 12 i) (mv 13 i) p = nI U := eU
  have e2 : su_lo (mv 12 i) (mv 14 i) p = nI L := eL
  have hg : 0 < Nat.gcd L U := Nat.gcd_pos_of_pos_left U hL0
  have hgl : Nat.gcd L U ≤ L := Nat.gcd_le_left U hL0
  unfold su_flw su_mfl
  rw [e1, e2, eU, eL, su_gc_eu 64 U L (by omega) (by omega), su_eu_64 (by omega), su_mg_eu _ L U (by omega) (by omega), nI_clamp (by omega), su_eu_big U L U (Nat.le_refl U), Nat.gcd_comm U L]
  have h4 : (if 1 < nI (Nat.gcd L U) then nI (Nat.gcd L U) else 1) = nI (Nat.gcd L U) := by
    by_cases h5 : 1 < nI (Nat.gcd L U)
    · rw [if_pos h5]
    · rw [if_neg h5]
      rw [show (1 : Int32) = nI 1 from rfl, nI_ltI (by decide) (by omega)] at h5
      rw [show Nat.gcd L U = 1 from by omega]
      rfl
  rw [h4]
theorem iv_sq (hB : iv_B n t al so mv) {i : Nat} (hi : i < t) {p : Int32} (hp : ¬ p < 0) (h : ¬ su_mct mv i p = 0) : (if 3 < su_wh (mv 12 i) (mv 13 i) (mv 14 i) p / 500 then (3 : Int32) else su_wh (mv 12 i) (mv 13 i) (mv 14 i) p / 500) = su_sq (su_mup mv i p / su_mdn mv i p) := by
  rw [iv_wh hB hi hp h]
  obtain ⟨⟨U, hU, eU⟩, -, h3⟩ := iv_num hB hi hp
  obtain ⟨L, hL0, hL, eL⟩ := h3 h
  rw [eU, eL, nI_div (by omega) (by omega)]
  have hq : U / L ≤ 40000000 := Nat.le_trans (Nat.div_le_self U L) hU
  generalize U / L = q at hq
  unfold su_sq
  have e5 : nI q / 500 = nI (q / 500) := nI_div (b := 500) (by omega) (by decide)
  rw [e5]
  have c3 : ∀ k, k ≤ 3 → q / 500 = k → (if 3 < nI (q / 500) then (3 : Int32) else nI (q / 500)) = nI k := fun k hk e => by
    rw [e, if_neg (show ¬ (3 : Int32) < nI k from nI_nlt (a := 3) hk (by decide))]
  by_cases h1 : 500 ≤ q
  · rw [if_pos (show (500 : Int32) ≤ nI q from nI_le (a := 500) h1 (by omega))]
    by_cases h2 : 1000 ≤ q
    · rw [if_pos (show (1000 : Int32) ≤ nI q from nI_le (a := 1000) h2 (by omega))]
      by_cases h4 : 1500 ≤ q
      · rw [if_pos (show (1500 : Int32) ≤ nI q from nI_le (a := 1500) h4 (by omega))]
        by_cases h5 : 3 < q / 500
        · rw [if_pos (show (3 : Int32) < nI (q / 500) from nI_lt (a := 3) h5 (by omega))]
        · exact c3 3 (by omega) (by omega)
      · rw [if_neg (show ¬ (1500 : Int32) ≤ nI q from nI_ge (b := 1500) (by omega) (by decide))]
        exact c3 2 (by omega) (by omega)
    · rw [if_neg (show ¬ (1000 : Int32) ≤ nI q from nI_ge (b := 1000) (by omega) (by decide))]
      exact c3 1 (by omega) (by omega)
  · rw [if_neg (show ¬ (500 : Int32) ≤ nI q from nI_ge (b := 500) (by omega) (by decide))]
    exact c3 0 (by omega) (by omega)
theorem iv_bo {s m m2 : Int32} {k : Nat} {lm : Nat → Int32} (hk : k < 20) (hm : m = nI k) (hl : lm k = mv 9 k) : su_bo s m m2 lm = su_mbo s m m2 (mv 9 k) := by
  have e1 : su_lim m lm = mv 9 k := by
    rw [su_lim, hm, if_neg (nI_pos (by omega)), if_neg (show ¬ (20 : Int32) ≤ nI k from nI_ge (b := 20) hk (by decide)), nI_clamp (by omega), hl]
  rw [su_bo, su_mbo, e1, Int32.mul_comm s 3]
  by_cases h1 : m = m2
  · rw [if_pos h1, if_pos h1]
    by_cases h2 : 3 * s / 4 ≤ mv 9 k
    · rw [if_pos h2, if_neg (Int32.not_lt.mpr h2)]
    · rw [if_neg h2, if_pos (Int32.not_le.mp h2)]
  · rw [if_neg h1, if_neg h1]
end FL
