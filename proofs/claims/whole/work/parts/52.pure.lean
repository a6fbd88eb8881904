/-! checks on both sides -/
theorem in_1 {v a b : Int32} (h : ¬ v < a ∧ v ≤ b) : su_in v a b = 1 := by
  rw [su_in, if_neg h.1, if_neg (Int32.not_lt.mpr h.2)]
theorem in_0 {v a b : Int32} (h : ¬ (¬ v < a ∧ v ≤ b)) : su_in v a b = 0 := by
  rcases su_in_z (v := v) (a := a) (b := b) with h1 | h1
  · exact h1
  · have h2 := su_in1 (v := v) (a := a) (b := b) (by rw [h1]; decide)
    exact absurd ⟨h2.1, Int32.not_lt.mp h2.2⟩ h
theorem lt_le {v b c : Int32} (hc : c.toInt = b.toInt + 1) : v < c ↔ v ≤ b := by
  rw [Int32.lt_iff_toInt_lt, Int32.le_iff_toInt_le]
  omega
theorem in_1l {v b c : Int32} (hc : c.toInt = b.toInt + 1) (h : ¬ v < 0 ∧ v < c) : su_in v 0 b = 1 := in_1 ⟨h.1, (lt_le hc).mp h.2⟩
theorem in_0l {v b c : Int32} (hc : c.toInt = b.toInt + 1) (h : ¬ (¬ v < 0 ∧ v < c)) : su_in v 0 b = 0 := in_0 (fun h1 => h ⟨h1.1, (lt_le hc).mpr h1.2⟩)
theorem pm_1 {x y : Int32} (h : su_pl x y) : su_pm x y = 1 := by
  obtain ⟨h1, h2, h3, h4⟩ := h
  rw [su_pm, in_1 ⟨h1, Int32.not_lt.mp h2⟩, in_1 ⟨h3, h4⟩]
  decide
theorem pm_0 {x y : Int32} (h : ¬ su_pl x y) : su_pm x y = 0 := by
  by_cases h1 : su_in x (-50000) 50000 = 0
  · rw [su_pm, if_pos h1]
  · by_cases h2 : su_in y (-50000) 50000 = 0
    · rw [su_pm, if_neg h1, if_pos h2]
    · have g1 := su_in1 h1
      have g2 := su_in1 h2
      exact absurd ⟨g1.1, g1.2, g2.1, Int32.not_lt.mp g2.2⟩ h
theorem pm_b {x y : Int32} (h : su_pm x y = 1) : (-50000 ≤ x.toInt ∧ x.toInt ≤ 50000) ∧ -50000 ≤ y.toInt ∧ y.toInt ≤ 50000 := by
  have e1 : (-50000 : Int32).toInt = -50000 := by decide
  have e2 : (50000 : Int32).toInt = 50000 := by decide
  by_cases h1 : su_in x (-50000) 50000 = 0
  · rw [su_pm, if_pos h1] at h; cases h
  · by_cases h2 : su_in y (-50000) 50000 = 0
    · rw [su_pm, if_neg h1, if_pos h2] at h; cases h
    · have g1 := su_in1 h1
      have g2 := su_in1 h2
      rw [Int32.lt_iff_toInt_lt, Int32.lt_iff_toInt_lt, e1, e2] at g1 g2
      omega
theorem g0_1 {v : Int32} (h : su_nn v) : ¬ v < 0 := Int32.not_lt.mpr h
theorem g0_0 {v : Int32} (h : ¬ su_nn v) : v < 0 := Int32.not_le.mp h
/-- a told hydrant on both sides -/
theorem iv_kn {n t : Nat} {fH : Nat → Option Nat} {hv : Nat → Nat → Int32} {aw : Nat → Nat} {ct : Nat → Option Nat} {mv : Nat → Nat → Int32} {hq tq : Nat → Nat} (hH : iv_H n t fH hv aw ct mv hq tq) (hn : n ≤ 40) (p : Int32) : (∃ j, j < n ∧ p = nI j ∧ su_kn p fH = some (hq j)) ∨ (su_in p 0 (nI n - 1) = 0 ∧ su_kn p fH = none) := by
  by_cases h : su_in p 0 (nI n - 1) = 0
  · refine .inr ⟨h, ?_⟩
    by_cases h1 : p < 0
    · rw [su_kn, if_pos h1]
    · by_cases h2 : (40 : Int32) ≤ p
      · rw [su_kn, if_neg h1, if_pos h2]
      · obtain ⟨j, hj, rfl⟩ := nI_of h1
        rw [su_kn, if_neg h1, if_neg h2, nI_clamp hj, hH.1 j]
        by_cases h3 : j < n
        · rw [su_hin_i h3 hn] at h; cases h
        · rw [if_neg h3]
  · obtain ⟨j, hj, rfl⟩ := su_hin hn h
    refine .inl ⟨j, hj, rfl, ?_⟩
    rw [su_kn, if_neg (nI_pos (by omega)), if_neg (show ¬ (40 : Int32) ≤ nI j from nI_ge (a := j) (b := 40) (by omega) (by decide)), nI_clamp (by omega), hH.1 j, if_pos hj]
theorem iv_tk {t : Nat} {fT : Nat → Option Nat} {tv : Nat → Nat → Int32} {mv : Nat → Nat → Int32} {tq : Nat → Nat} (hT : iv_T t fT tv mv tq) (ht : t ≤ 100) (p : Int32) : (∃ j, j < t ∧ p = nI j ∧ su_tk p fT = some (tq j)) ∨ (su_in p 0 (nI t - 1) = 0 ∧ su_tk p fT = none) := by
  by_cases h : su_in p 0 (nI t - 1) = 0
  · refine .inr ⟨h, ?_⟩
    by_cases h1 : p < 0
    · rw [su_tk, if_pos h1]
    · by_cases h2 : (100 : Int32) ≤ p
      · rw [su_tk, if_neg h1, if_pos h2]
      · obtain ⟨j, hj, rfl⟩ := nI_of h1
        rw [su_tk, if_neg h1, if_neg h2, nI_clamp hj, hT.1 j]
        by_cases h3 : j < t
        · rw [su_tin_i h3 ht] at h; cases h
        · rw [if_neg h3]
  · obtain ⟨j, hj, rfl⟩ := su_tin ht h
    refine .inl ⟨j, hj, rfl, ?_⟩
    rw [su_tk, if_neg (nI_pos (by omega)), if_neg (show ¬ (100 : Int32) ≤ nI j from nI_ge (a := j) (b := 100) (by omega) (by decide)), nI_clamp (by omega), hT.1 j, if_pos hj]
/-- usable on both sides -/
theorem su_mon_n {d : Nat} (h : d ≤ 99999) : su_mon (nI d) = nI (d % 360 / 30) := by
  rw [su_mon, show (360 : Int32) = nI 360 from rfl, nI_mod (by omega) (by decide), show (30 : Int32) = nI 30 from rfl, nI_div (by omega) (by decide)]
theorem su_m1_in {ov : Nat → Nat → Int32} {o : Nat} {d a b : Int32} (h0 : ov 0 o = a) (h1 : ov 1 o = b) : su_m1 (ov 0) (ov 1) d d (some o) = 0 ↔ su_in d a b = 0 := by
  simp only [su_m1, su_in, h0, h1]
  by_cases g1 : b < d
  · simp only [g1, if_true]
    by_cases g2 : d < a
    · simp only [g2, if_true]
    · simp only [g2, if_false]
  · simp only [g1, if_false]
theorem su_m3_z {wf wt : Nat → Int32} {a b : Int32} {fw : Nat → Option Nat} : su_m3 wf wt a b fw = 0 ↔ ∀ i, i < 3 → su_m1 wf wt a b (fw i) = 0 := by
  unfold su_m3
  constructor
  · intro h
    by_cases h0 : su_m1 wf wt a b (fw 0) = 0
    · rw [if_pos h0] at h
      by_cases h1 : su_m1 wf wt a b (fw 1) = 0
      · rw [if_pos h1] at h
        by_cases h2 : su_m1 wf wt a b (fw 2) = 0
        · intro i hi
          rcases i with _ | _ | _ | i
          · exact h0
          · exact h1
          · exact h2
          · omega
        · rw [if_neg h2] at h; cases h
      · rw [if_neg h1] at h; cases h
    · rw [if_neg h0] at h; cases h
  · intro h
    rw [if_pos (h 0 (by decide)), if_pos (h 1 (by decide)), if_pos (h 2 (by decide))]
theorem iv_us {n t : Nat} {fH : Nat → Option Nat} {hv ov : Nat → Nat → Int32} {aw : Nat → Nat} {ct : Nat → Option Nat} {fw : Nat → Nat → Option Nat} {mv : Nat → Nat → Int32} {hq tq wn : Nat → Nat} {al so : Int32} (hH : iv_H n t fH hv aw ct mv hq tq) (hO : iv_O n ov fw mv hq wn) (hB : iv_B n t al so mv) {k d : Nat} (hk : k < n) (hd : d ≤ 99999) : su_us (hv 7 (hq k)) (hv 4 (hq k)) (hv 8 (hq k)) al (nI d) (ov 0) (ov 1) (fw (hq k)) = su_mus mv al k d (wn k) := by
  obtain ⟨-, -, hh⟩ := hH
  obtain ⟨-, -, -, -, e4, -, e7, -, -, e8⟩ := hh k hk
  obtain ⟨hw3, hmw, hwk⟩ := hO k hk
  have hm : d % 360 / 30 < 12 := by omega
  have ed := e8 _ hm
  unfold su_us su_mus
  rw [e7, e4]
  by_cases h1 : mv 4 k = 2
  · rw [if_pos h1, if_pos h1]
  rw [if_neg h1, if_neg h1]
  by_cases h2 : mv 3 k = 1 ∧ al = 0
  · rw [if_pos h2, if_pos h2]
  rw [if_neg h2, if_neg h2, su_dry, su_mon_n hd, ed]
  have hx : (su_m3 (ov 0) (ov 1) (nI d) (nI d) (fw (hq k)) = 0) ↔ ¬ ∃ i, i < wn k ∧ ¬ su_in (nI d) (mv 6 (3 * k + i)) (mv 7 (3 * k + i)) = 0 := by
    rw [su_m3_z]
    constructor
    · rintro h ⟨i, hi, h3⟩
      obtain ⟨o, f1, f2, f3⟩ := (hwk i (by omega)).1 hi
      have h4 := h i (by omega)
      rw [f1, su_m1_in f2 f3] at h4
      exact h3 h4
    · intro h i hi
      rcases Nat.lt_or_ge i (wn k) with h3 | h3
      · obtain ⟨o, f1, f2, f3⟩ := (hwk i hi).1 h3
        rw [f1, su_m1_in f2 f3]
        exact Classical.byContradiction (fun h4 => h ⟨i, h3, h4⟩)
      · rw [(hwk i hi).2 h3]; rfl
  by_cases h3 : mv 8 (12 * k + d % 360 / 30) = 0
  · rw [if_pos h3, if_pos rfl, if_neg (fun h : mv 3 k = 2 ∧ ¬ mv 8 (12 * k + d % 360 / 30) = 0 => h.2 h3)]
    by_cases h4 : su_m3 (ov 0) (ov 1) (nI d) (nI d) (fw (hq k)) = 0
    · rw [if_pos h4, if_neg (hx.mp h4)]
    · rw [if_neg h4, if_pos (Classical.byContradiction (fun h5 => h4 (hx.mpr h5)))]
  · rw [if_neg h3, if_neg (show ¬ (1 : Int32) = 0 by decide)]
    have h5 : mv 3 k = 2 := Classical.byContradiction (fun h6 => h3 ((hB.2.2.2.1 k hk).2.2 h6 _ hm))
    rw [if_pos ⟨h5, h3⟩]
/-- hose lengths -/
theorem su_sz_ti {v : Int32} (h : -2147483647 ≤ v.toInt) : (su_sz v).toInt = v.toInt.natAbs := by
  have e0 : (0 : Int32).toInt = 0 := by decide
  unfold su_sz
  by_cases h1 : (0 : Int32) ≤ v
  · rw [if_pos h1]
    rw [Int32.le_iff_toInt_le, e0] at h1
    omega
  · rw [if_neg h1, su_ti_neg h]
    rw [Int32.le_iff_toInt_le, e0] at h1
    omega
theorem su_ab_ti {v : Int32} (h : -2147483647 ≤ v.toInt) : (su_ab v).toInt = v.toInt.natAbs := by
  have e0 : (0 : Int32).toInt = 0 := by decide
  have hv := Int32.toInt_lt v
  unfold su_ab
  by_cases h1 : (0 : Int32) ≤ v
  · rw [if_pos h1]
    rw [Int32.le_iff_toInt_le, e0] at h1
    omega
  · rw [if_neg h1, su_ti_sub (by omega) (by omega), e0]
    rw [Int32.le_iff_toInt_le, e0] at h1
    omega
def su_ds1 (x y a b : Int32) : Nat := (a.toInt - x.toInt).natAbs + (b.toInt - y.toInt).natAbs
theorem su_hose_n {x y a b : Int32} (h : su_pm x y = 1) (g : su_pm a b = 1) : su_hose x y a b = nI (su_ds1 x y a b) ∧ su_sz (a - x) + su_sz (b - y) = nI (su_ds1 x y a b) ∧ su_ds1 x y a b ≤ 200000 := by
  have hb := pm_b h
  have gb := pm_b g
  have hle : su_ds1 x y a b ≤ 200000 := by unfold su_ds1; omega
  have hn : (nI (su_ds1 x y a b)).toInt = su_ds1 x y a b := nI_toInt (by omega)
  have s1 : (x - a).toInt = x.toInt - a.toInt := su_ti_sub (by omega) (by omega)
  have s2 : (y - b).toInt = y.toInt - b.toInt := su_ti_sub (by omega) (by omega)
  have s3 : (a - x).toInt = a.toInt - x.toInt := su_ti_sub (by omega) (by omega)
  have s4 : (b - y).toInt = b.toInt - y.toInt := su_ti_sub (by omega) (by omega)
  have a1 := su_ab_ti (v := x - a) (by omega)
  have a2 := su_ab_ti (v := y - b) (by omega)
  have a3 := su_sz_ti (v := a - x) (by omega)
  have a4 := su_sz_ti (v := b - y) (by omega)
  refine ⟨?_, ?_, hle⟩
  · refine su_i32 ?_ hn
    unfold su_hose
    rw [su_ti_add (by omega) (by omega), a1, a2, s1, s2]
    unfold su_ds1
    omega
  · refine su_i32 ?_ hn
    rw [su_ti_add (by omega) (by omega), a3, a4, s3, s4]
    unfold su_ds1
    omega
theorem su_hose_m {n t : Nat} {al so : Int32} {mv : Nat → Nat → Int32} (hB : iv_B n t al so mv) {k : Nat} (hk : k < n) {a b : Int32} (g : su_pm a b = 1) : su_mh mv a b k = nI (su_ds1 (mv 0 k) (mv 1 k) a b) ∧ su_hose (mv 0 k) (mv 1 k) a b = su_mh mv a b k ∧ su_ds1 (mv 0 k) (mv 1 k) a b ≤ 200000 := by
  obtain ⟨h1, h2, h3⟩ := su_hose_n (hB.2.2.2.1 k hk).1 g
  exact ⟨h2, h1.trans h2.symm, h3⟩
