/-! keys in a row -/
def su_insl (k : Int32) : List Int32 → List Int32
  | [] => [k]
  | x :: xs => if x ≤ k then x :: su_insl k xs else k :: x :: xs
def su_nk (fH : Nat → Option Nat) (us ky : Nat → Int32) : Nat → List Int32
  | 0 => []
  | k + 1 => match fH k with
    | none => su_nk fH us ky k
    | some q => if us q = 0 then su_nk fH us ky k else su_insl (ky q) (su_nk fH us ky k)
def su_row (kf : Nat → Int32) (L : List Int32) : Prop := ∀ j, j < L.length → kf j = L.getD j 0
def su_num (kf : Nat → Int32) (ks p : Int32) : Int32 := if p < 0 then -1 else if ks ≤ p then -1 else if (40 : Int32) ≤ p then -1 else kf p.toNatClampNeg - kf p.toNatClampNeg / 40 * 40
theorem su_insl_len (k : Int32) : ∀ L : List Int32, (su_insl k L).length = L.length + 1
  | [] => rfl
  | x :: xs => by
    show (if x ≤ k then x :: su_insl k xs else k :: x :: xs).length = _
    by_cases h : x ≤ k
    · rw [if_pos h, List.length_cons, su_insl_len k xs, List.length_cons]
    · rw [if_neg h, List.length_cons, List.length_cons]
theorem su_nk_len (fH : Nat → Option Nat) (us ky : Nat → Int32) : ∀ k, (su_nk fH us ky k).length ≤ k
  | 0 => Nat.le_refl 0
  | k + 1 => by
    have ih := su_nk_len fH us ky k
    rcases hq : fH k with _ | q
    · simp only [su_nk, hq]; omega
    · simp only [su_nk, hq]
      by_cases h : us q = 0
      · rw [if_pos h]; omega
      · rw [if_neg h, su_insl_len]; omega
theorem su_insl_mem {k y : Int32} : ∀ {L : List Int32}, y ∈ su_insl k L ↔ y = k ∨ y ∈ L
  | [] => by simp [su_insl]
  | x :: xs => by
    simp only [su_insl]
    by_cases h : x ≤ k
    · rw [if_pos h, List.mem_cons, su_insl_mem, List.mem_cons]
      constructor
      · rintro (h | h | h)
        · exact Or.inr (Or.inl h)
        · exact Or.inl h
        · exact Or.inr (Or.inr h)
      · rintro (h | h | h)
        · exact Or.inr (Or.inl h)
        · exact Or.inl h
        · exact Or.inr (Or.inr h)
    · rw [if_neg h, List.mem_cons]
theorem su_insl_sorted (k : Int32) : ∀ {L : List Int32}, L.Pairwise (· ≤ ·) → (su_insl k L).Pairwise (· ≤ ·)
  | [], _ => List.pairwise_singleton _ _
  | x :: xs, h => by
    obtain ⟨h1, h2⟩ := List.pairwise_cons.mp h
    simp only [su_insl]
    by_cases hx : x ≤ k
    · rw [if_pos hx]
      refine List.pairwise_cons.mpr ⟨fun y hy => ?_, su_insl_sorted k h2⟩
      rcases su_insl_mem.mp hy with g | g
      · rw [g]; exact hx
      · exact h1 y g
    · rw [if_neg hx]
      have hk : k ≤ x := Int32.le_of_lt (Int32.not_le.mp hx)
      refine List.pairwise_cons.mpr ⟨fun y hy => ?_, h⟩
      rcases List.mem_cons.mp hy with g | g
      · rw [g]; exact hk
      · exact Int32.le_trans hk (h1 y g)
theorem su_nk_sorted (fH : Nat → Option Nat) (us ky : Nat → Int32) : ∀ k, (su_nk fH us ky k).Pairwise (· ≤ ·)
  | 0 => List.Pairwise.nil
  | k + 1 => by
    have ih := su_nk_sorted fH us ky k
    rcases hq : fH k with _ | q
    · simp only [su_nk, hq]; exact ih
    · simp only [su_nk, hq]
      by_cases h : us q = 0
      · rw [if_pos h]; exact ih
      · rw [if_neg h]; exact su_insl_sorted _ ih
theorem su_insl_eq : ∀ (L : List Int32) (a : Nat) (ky : Int32), a ≤ L.length → (∀ j, j < a → L.getD j 0 ≤ ky) → (∀ j, a ≤ j → j < L.length → ky < L.getD j 0) → su_insl ky L = L.take a ++ ky :: L.drop a
  | [], a, ky, ha, _, _ => by
    have h : a = 0 := Nat.le_zero.mp ha
    subst h
    rfl
  | x :: xs, 0, ky, _, _, h2 => by
    have h : ky < x := h2 0 (Nat.le_refl 0) (Nat.succ_pos _)
    simp only [su_insl]
    rw [if_neg (Int32.not_le.mpr h)]
    rfl
  | x :: xs, a + 1, ky, ha, h1, h2 => by
    have h : x ≤ ky := h1 0 (Nat.succ_pos a)
    simp only [su_insl]
    rw [if_pos h, su_insl_eq xs a ky (Nat.le_of_succ_le_succ ha) (fun j hj => h1 (j + 1) (Nat.succ_lt_succ hj)) (fun j hj hl => h2 (j + 1) (Nat.succ_le_succ hj) (Nat.succ_lt_succ hl))]
    rfl
theorem su_ins_row {kf kg : Nat → Int32} {n a : Nat} {ky : Int32} {L : List Int32} (hL : L.length = n) (h : su_ins kf kg n a ky) (hr : su_row kf L) (hs : L.Pairwise (· ≤ ·)) : su_row kg (su_insl ky L) := by
  obtain ⟨ha, h1, h2, h3, h4, h5⟩ := h
  subst hL
  have hb : ∀ j, j < a → L.getD j 0 ≤ ky := by
    intro j hj
    rcases h5 with h5 | h5
    · omega
    · rw [hr (a - 1) (by omega)] at h5
      rcases Nat.lt_or_ge j (a - 1) with h6 | h6
      · refine Int32.le_trans ?_ h5
        have h7 := List.pairwise_iff_getElem.mp hs j (a - 1) (by omega) (by omega) h6
        rw [← List.getElem_eq_getD (h := by omega) 0, ← List.getElem_eq_getD (h := by omega) 0]
        exact h7
      · have h7 : j = a - 1 := by omega
        rw [h7]; exact h5
  have hc : ∀ j, a ≤ j → j < L.length → ky < L.getD j 0 := fun j g1 g2 => by rw [← hr j g2]; exact h4 j g1 g2
  rw [su_insl_eq L a ky ha hb hc]
  intro j hj
  have hlen : (L.take a ++ ky :: L.drop a).length = L.length + 1 := by
    rw [List.length_append, List.length_cons, List.length_take, List.length_drop]
    omega
  have htk : (L.take a).length = a := by rw [List.length_take]; omega
  rw [hlen] at hj
  rw [List.getD_eq_getElem?_getD]
  rcases Nat.lt_trichotomy j a with g | g | g
  · rw [h1 j g, hr j (by omega), List.getElem?_append_left (by omega), List.getElem?_take_of_lt g, List.getD_eq_getElem?_getD]
  · subst g
    rw [h2, List.getElem?_append_right (by omega), htk, Nat.sub_self]
    rfl
  · obtain ⟨i, rfl⟩ : ∃ i, j = i + 1 := ⟨j - 1, by omega⟩
    rw [h3 i (by omega) (by omega), hr i (by omega), List.getElem?_append_right (by omega), htk, show i + 1 - a = (i - a) + 1 by omega, List.getElem?_cons_succ, List.getElem?_drop, show a + (i - a) = i by omega, List.getD_eq_getElem?_getD]
