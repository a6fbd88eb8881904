/-! a sorted row against the model's search -/
section SEL
variable {n : Nat} {us wt : Nat → Int32} {w : Nat → Nat}
def su_K (w : Nat → Nat) (k : Nat) : Nat := w k * 40 + k
def su_be (w : Nat → Nat) (o : Option Nat) (y : Nat) : Prop := ∀ l, o = some l → su_K w l < su_K w y
theorem su_K_inj {a b : Nat} (ha : a < 40) (hb : b < 40) (h : su_K w a = su_K w b) : a = b := by
  unfold su_K at h
  omega
theorem su_bh_be (hn : n ≤ 40) (hw : ∀ k, k < n → ¬ us k = 0 → wt k = nI (w k) ∧ w k ≤ 200000) {o : Option Nat} (ho : ∀ l, o = some l → l < n ∧ ¬ us l = 0) {y : Nat} (hy : y < n) (hu : ¬ us y = 0) : su_bh wt o y = true ↔ su_be w o y := by
  rcases o with _ | l
  · exact ⟨fun _ l h => (nomatch h), fun _ => rfl⟩
  · obtain ⟨hl, hlu⟩ := ho l rfl
    obtain ⟨e1, b1⟩ := hw l hl hlu
    obtain ⟨e2, b2⟩ := hw y hy hu
    have hbe : su_be w (some l) y ↔ w l * 40 + l < w y * 40 + y := ⟨fun h => h l rfl, fun h l' e => by cases e; exact h⟩
    rw [hbe]
    simp only [su_bh, e1, e2]
    by_cases h1 : w l < w y
    · rw [if_pos (nI_lt h1 (by omega))]
      exact ⟨fun _ => by omega, fun _ => rfl⟩
    · rw [if_neg (nI_nlt (by omega) (by omega))]
      by_cases h2 : w y = w l
      · rw [if_pos (by rw [h2])]
        by_cases h3 : y ≤ l
        · rw [if_pos h3]
          exact ⟨fun h => (by cases h), fun h => (by omega)⟩
        · rw [if_neg h3]
          exact ⟨fun _ => by omega, fun _ => rfl⟩
      · rw [if_neg (fun h => h2 ((nI_eq (by omega) (by omega)).mp h))]
        exact ⟨fun h => (by cases h), fun h => (by omega)⟩
theorem su_nx_spec (hn : n ≤ 40) (hw : ∀ k, k < n → ¬ us k = 0 → wt k = nI (w k) ∧ w k ≤ 200000) {o : Option Nat} (ho : ∀ l, o = some l → l < n ∧ ¬ us l = 0) : ∀ m, m ≤ n → (su_nx us wt o m = none ∧ ∀ y, y < m → ¬ us y = 0 → ¬ su_be w o y) ∨ (∃ x, su_nx us wt o m = some x ∧ x < m ∧ ¬ us x = 0 ∧ su_be w o x ∧ ∀ y, y < m → ¬ us y = 0 → su_be w o y → su_K w x ≤ su_K w y)
  | 0, _ => .inl ⟨rfl, fun y hy => absurd hy (Nat.not_lt_zero y)⟩
  | m + 1, hm => by
    have ih := su_nx_spec hn hw ho m (by omega)
    have hmn : m < n := by omega
    simp only [su_nx]
    by_cases h1 : us m = 0
    · rw [if_pos h1]
      rcases ih with ⟨e, h2⟩ | ⟨x, e, h2, h3, h4, h5⟩
      · refine .inl ⟨e, fun y hy hu => ?_⟩
        rcases Nat.lt_or_eq_of_le (Nat.le_of_lt_succ hy) with h6 | h6
        · exact h2 y h6 hu
        · rw [h6] at hu; exact absurd h1 hu
      · refine .inr ⟨x, e, by omega, h3, h4, fun y hy hu => ?_⟩
        rcases Nat.lt_or_eq_of_le (Nat.le_of_lt_succ hy) with h6 | h6
        · exact h5 y h6 hu
        · rw [h6] at hu; exact absurd h1 hu
    · rw [if_neg h1]
      by_cases h2 : su_bh wt o m = true
      · rw [if_pos h2]
        have hb := (su_bh_be hn hw ho hmn h1).mp h2
        rcases ih with ⟨e, h3⟩ | ⟨x, e, h3, h4, h5, h6⟩
        · rw [e]
          refine .inr ⟨m, rfl, by omega, h1, hb, fun y hy hu hby => ?_⟩
          rcases Nat.lt_or_eq_of_le (Nat.le_of_lt_succ hy) with h6 | h6
          · exact absurd hby (h3 y h6 hu)
          · rw [h6]; exact Nat.le_refl _
        · rw [e]
          obtain ⟨e1, b1⟩ := hw x (by omega) h4
          obtain ⟨e2, b2⟩ := hw m hmn h1
          simp only [e1, e2]
          by_cases h7 : w x ≤ w m
          · rw [if_pos (nI_le h7 (by omega))]
            refine .inr ⟨x, rfl, by omega, h4, h5, fun y hy hu hby => ?_⟩
            rcases Nat.lt_or_eq_of_le (Nat.le_of_lt_succ hy) with h8 | h8
            · exact h6 y h8 hu hby
            · rw [h8]; unfold su_K; omega
          · rw [if_neg (nI_ge (by omega) (by omega))]
            refine .inr ⟨m, rfl, by omega, h1, hb, fun y hy hu hby => ?_⟩
            rcases Nat.lt_or_eq_of_le (Nat.le_of_lt_succ hy) with h8 | h8
            · have h9 := h6 y h8 hu hby
              unfold su_K at h9 ⊢
              omega
            · rw [h8]; exact Nat.le_refl _
      · rw [if_neg h2]
        have hb : ¬ su_be w o m := fun h => h2 ((su_bh_be hn hw ho hmn h1).mpr h)
        rcases ih with ⟨e, h3⟩ | ⟨x, e, h3, h4, h5, h6⟩
        · refine .inl ⟨e, fun y hy hu => ?_⟩
          rcases Nat.lt_or_eq_of_le (Nat.le_of_lt_succ hy) with h7 | h7
          · exact h3 y h7 hu
          · rw [h7]; exact hb
        · refine .inr ⟨x, e, by omega, h4, h5, fun y hy hu hby => ?_⟩
          rcases Nat.lt_or_eq_of_le (Nat.le_of_lt_succ hy) with h7 | h7
          · exact h6 y h7 hu hby
          · rw [h7] at hby; exact absurd hby hb
/-- the i-th of the row is the i-th that the model finds -/
theorem su_kt_row (hn : n ≤ 40) (hw : ∀ k, k < n → ¬ us k = 0 → wt k = nI (w k) ∧ w k ≤ 200000) {f : Nat → Int32} {len : Nat} (F1 : ∀ j, j < len → ∃ k, k < n ∧ ¬ us k = 0 ∧ f j = nI (su_K w k)) (F2 : ∀ k, k < n → ¬ us k = 0 → ∃ j, j < len ∧ f j = nI (su_K w k)) (F3 : ∀ i j, i < j → j < len → f i < f j) : ∀ i, (i < len → ∃ k, su_kt us wt n i = some k ∧ k < n ∧ ¬ us k = 0 ∧ f i = nI (su_K w k)) ∧ (len ≤ i → su_kt us wt n i = none) := by
  have hKb : ∀ k, k < n → ¬ us k = 0 → su_K w k < 2 ^ 31 := fun k hk hu => by
    have := (hw k hk hu).2
    unfold su_K
    omega
  have hle : ∀ i j, i ≤ j → j < len → f i ≤ f j := fun i j h1 h2 => by
    rcases Nat.lt_or_eq_of_le h1 with h3 | h3
    · exact Int32.le_of_lt (F3 i j h3 h2)
    · rw [h3]; exact Int32.le_refl _
  intro i
  induction i with
  | zero =>
    rcases su_nx_spec hn hw (o := none) (fun l h => nomatch h) n (Nat.le_refl n) with ⟨e, h1⟩ | ⟨x, e, h1, h2, h3, h4⟩
    · refine ⟨fun h => ?_, fun _ => e⟩
      obtain ⟨k, hk, hu, -⟩ := F1 0 h
      exact absurd (fun l h => nomatch h) (h1 k hk hu)
    · obtain ⟨j, hj, ej⟩ := F2 x h1 h2
      refine ⟨fun h => ⟨x, e, h1, h2, ?_⟩, fun h => by omega⟩
      obtain ⟨k, hk, hu, ek⟩ := F1 0 h
      have a1 := h4 k hk hu (fun l h => nomatch h)
      have a2 := hle 0 j (Nat.zero_le j) hj
      rw [ek, ej, nI_leI (hKb k hk hu) (hKb x h1 h2)] at a2
      rw [ek, show su_K w k = su_K w x from by omega]
  | succ i ih =>
    obtain ⟨ih1, ih2⟩ := ih
    rcases Nat.lt_or_ge i len with hi | hi
    · obtain ⟨l, el, hl, hul, fl⟩ := ih1 hi
      have hkt : su_kt us wt n (i + 1) = su_nx us wt (some l) n := by simp only [su_kt, el]
      rw [hkt]
      have hpos : ∀ x, x < n → ¬ us x = 0 → su_be w (some l) x → ∃ j, j < len ∧ i < j ∧ f j = nI (su_K w x) := fun x hx hu hb => by
        obtain ⟨j, hj, ej⟩ := F2 x hx hu
        refine ⟨j, hj, ?_, ej⟩
        rcases Nat.lt_or_ge i j with h | h
        · exact h
        · have a1 := hle j i h hi
          rw [ej, fl, nI_leI (hKb x hx hu) (hKb l hl hul)] at a1
          have := hb l rfl
          omega
      rcases su_nx_spec hn hw (o := some l) (fun l' h => by cases h; exact ⟨hl, hul⟩) n (Nat.le_refl n) with ⟨e, h1⟩ | ⟨x, e, h1, h2, h3, h4⟩
      · refine ⟨fun h => ?_, fun _ => e⟩
        obtain ⟨k, hk, hu, ek⟩ := F1 (i + 1) h
        refine absurd (fun l' h' => ?_) (h1 k hk hu)
        cases h'
        have a1 := F3 i (i + 1) (by omega) h
        rw [fl, ek, nI_ltI (hKb l hl hul) (hKb k hk hu)] at a1
        exact a1
      · obtain ⟨j, hj, hij, ej⟩ := hpos x h1 h2 h3
        refine ⟨fun h => ⟨x, e, h1, h2, ?_⟩, fun h => by omega⟩
        obtain ⟨k, hk, hu, ek⟩ := F1 (i + 1) h
        have a0 := F3 i (i + 1) (by omega) h
        rw [fl, ek, nI_ltI (hKb l hl hul) (hKb k hk hu)] at a0
        have a1 := h4 k hk hu (fun l' h' => by cases h'; exact a0)
        have a2 := hle (i + 1) j (by omega) hj
        rw [ek, ej, nI_leI (hKb k hk hu) (hKb x h1 h2)] at a2
        rw [ek, show su_K w k = su_K w x from by omega]
    · refine ⟨fun h => by omega, fun _ => ?_⟩
      simp only [su_kt, ih2 hi]
end SEL
section ROW
variable {n : Nat} {us : Nat → Int32} {w : Nat → Nat} {fH : Nat → Option Nat} {us1 ky : Nat → Int32} {hq : Nat → Nat}
theorem su_insl_nd {k : Int32} : ∀ {L : List Int32}, L.Nodup → ¬ k ∈ L → (su_insl k L).Nodup
  | [], _, _ => by simp [su_insl]
  | x :: xs, h, hk => by
    rw [List.nodup_cons] at h
    rw [List.mem_cons, not_or] at hk
    show (if x ≤ k then x :: su_insl k xs else k :: x :: xs).Nodup
    by_cases h1 : x ≤ k
    · rw [if_pos h1, List.nodup_cons, su_insl_mem]
      exact ⟨fun h2 => h2.elim (fun e => hk.1 e.symm) h.1, su_insl_nd h.2 hk.2⟩
    · rw [if_neg h1, List.nodup_cons, List.mem_cons, List.nodup_cons]
      exact ⟨fun h2 => h2.elim hk.1 hk.2, h⟩
theorem su_nk_spec (hn : n ≤ 40) (hf : ∀ k, fH k = if k < n then some (hq k) else none) (hus : ∀ k, k < n → (us1 (hq k) = 0 ↔ us k = 0)) (hky : ∀ k, k < n → ¬ us k = 0 → ky (hq k) = nI (su_K w k)) (hwb : ∀ k, k < n → ¬ us k = 0 → w k ≤ 200000) : ∀ m, m ≤ 40 → (su_nk fH us1 ky m).Nodup ∧ ∀ v, v ∈ su_nk fH us1 ky m ↔ ∃ k, k < m ∧ k < n ∧ ¬ us k = 0 ∧ v = nI (su_K w k)
  | 0, _ => ⟨List.nodup_nil, fun v => ⟨fun h => (nomatch h), fun ⟨k, hk, _⟩ => absurd hk (Nat.not_lt_zero k)⟩⟩
  | m + 1, hm => by
    obtain ⟨ih1, ih2⟩ := su_nk_spec hn hf hus hky hwb m (by omega)
    by_cases hmn : m < n
    · have e1 : fH m = some (hq m) := by rw [hf m, if_pos hmn]
      simp only [su_nk, e1]
      by_cases h1 : us m = 0
      · rw [if_pos ((hus m hmn).mpr h1)]
        refine ⟨ih1, fun v => ?_⟩
        rw [ih2 v]
        constructor
        · rintro ⟨k, a, b, c, d⟩; exact ⟨k, by omega, b, c, d⟩
        · rintro ⟨k, a, b, c, d⟩
          rcases Nat.lt_or_eq_of_le (Nat.le_of_lt_succ a) with h2 | h2
          · exact ⟨k, h2, b, c, d⟩
          · rw [h2] at c; exact absurd h1 c
      · rw [if_neg (fun h => h1 ((hus m hmn).mp h)), hky m hmn h1]
        refine ⟨su_insl_nd ih1 (fun h => ?_), fun v => ?_⟩
        · obtain ⟨k, a, b, c, d⟩ := (ih2 _).mp h
          have b1 := hwb m hmn h1
          have b2 := hwb k b c
          rw [nI_eq (by unfold su_K; omega) (by unfold su_K; omega)] at d
          have := su_K_inj (by omega) (by omega) d
          omega
        · rw [su_insl_mem, ih2 v]
          constructor
          · rintro (h2 | ⟨k, a, b, c, d⟩)
            · exact ⟨m, by omega, hmn, h1, h2⟩
            · exact ⟨k, by omega, b, c, d⟩
          · rintro ⟨k, a, b, c, d⟩
            rcases Nat.lt_or_eq_of_le (Nat.le_of_lt_succ a) with h2 | h2
            · exact .inr ⟨k, h2, b, c, d⟩
            · rw [h2] at d; exact .inl d
    · have e1 : fH m = none := by rw [hf m, if_neg hmn]
      simp only [su_nk, e1]
      refine ⟨ih1, fun v => ?_⟩
      rw [ih2 v]
      constructor
      · rintro ⟨k, a, b, c, d⟩; exact ⟨k, by omega, b, c, d⟩
      · rintro ⟨k, a, b, c, d⟩; exact ⟨k, by omega, b, c, d⟩
theorem su_getD {L : List Int32} {j : Nat} (h : j < L.length) : L.getD j 0 = L[j] := by rw [List.getD_eq_getElem?_getD, List.getElem?_eq_getElem h]; rfl
theorem su_num_kt {wt : Nat → Int32} (hn : n ≤ 40) (hw : ∀ k, k < n → ¬ us k = 0 → wt k = nI (w k) ∧ w k ≤ 200000) (hf : ∀ k, fH k = if k < n then some (hq k) else none) (hus : ∀ k, k < n → (us1 (hq k) = 0 ↔ us k = 0)) (hky : ∀ k, k < n → ¬ us k = 0 → ky (hq k) = nI (su_K w k)) {kg : Nat → Int32} (hr : su_row kg (su_nk fH us1 ky 40)) : (∀ i, i < 2 ^ 31 → su_num kg (nI (su_nk fH us1 ky 40).length) (nI i) = su_oi (su_kt us wt n i)) ∧ ∀ k, ¬ su_kt us wt n k = none → k + 1 < 2 ^ 31 := by
  obtain ⟨hnd, hmem⟩ := su_nk_spec hn hf hus hky (fun k hk hu => (hw k hk hu).2) 40 (Nat.le_refl 40)
  have hlen := su_nk_len fH us1 ky 40
  have hsr := su_nk_sorted fH us1 ky 40
  generalize su_nk fH us1 ky 40 = L at hr hnd hmem hlen hsr
  have F1 : ∀ j, j < L.length → ∃ k, k < n ∧ ¬ us k = 0 ∧ L.getD j 0 = nI (su_K w k) := fun j hj => by
    rw [su_getD hj]
    obtain ⟨k, -, b, c, d⟩ := (hmem _).mp (List.getElem_mem hj)
    exact ⟨k, b, c, d⟩
  have F2 : ∀ k, k < n → ¬ us k = 0 → ∃ j, j < L.length ∧ L.getD j 0 = nI (su_K w k) := fun k hk hu => by
    obtain ⟨j, hj, e⟩ := List.getElem_of_mem ((hmem _).mpr ⟨k, by omega, hk, hu, rfl⟩)
    exact ⟨j, hj, by rw [su_getD hj]; exact e⟩
  have F3 : ∀ i j, i < j → j < L.length → L.getD i 0 < L.getD j 0 := fun i j hij hj => by
    rw [su_getD (by omega), su_getD hj]
    have h1 := List.pairwise_iff_getElem.mp hsr i j (by omega) hj hij
    have h2 : L[i] ≠ L[j] := fun e => by
      have := (List.getElem_inj hnd).mp e
      omega
    rw [Int32.le_iff_toInt_le] at h1
    rw [Int32.lt_iff_toInt_lt]
    have h3 : L[i].toInt ≠ L[j].toInt := fun e => h2 (Int32.toInt_inj.mp e)
    omega
  have R := su_kt_row hn hw F1 F2 F3
  refine ⟨fun i hi => ?_, fun k hk => ?_⟩
  · rw [su_num, if_neg (nI_pos hi)]
    rcases Nat.lt_or_ge i L.length with h1 | h1
    · obtain ⟨k, e, hk, hu, fk⟩ := (R i).1 h1
      have hb := (hw k hk hu).2
      rw [if_neg (nI_ge h1 (by omega)), if_neg (show ¬ (40 : Int32) ≤ nI i from nI_ge (b := 40) (by omega) (by decide)), nI_clamp hi, hr i h1, fk, show (40 : Int32) = nI 40 from rfl, nI_mod (by unfold su_K; omega) (by decide), e]
      show nI (su_K w k % 40) = nI k
      rw [show su_K w k % 40 = k from by unfold su_K; omega]
    · rw [if_pos (nI_le h1 hi), (R i).2 h1]; rfl
  · rcases Nat.lt_or_ge k L.length with h1 | h1
    · omega
    · exact absurd ((R k).2 h1) hk
end ROW
