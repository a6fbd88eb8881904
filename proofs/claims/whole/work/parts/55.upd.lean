/-! how the class's world goes on -/
abbrev iv_h (hv : Nat → Nat → Int32) (aw : Nat → Nat) (ct : Nat → Option Nat) (q : Nat) : va_E := .inr (1, [.int (hv 0 q), .int (hv 1 q), .int (hv 2 q), .int (hv 3 q), .int (hv 4 q), .ref (aw q), .int (hv 6 q), .int (hv 7 q), .int (hv 8 q), .int (hv 9 q), va_rf (ct q)])
section UP
variable {P Q : pm_T} {ac : Nat → ClassId} {h0 hm ao : Nat} {ad ma : Nat → Nat} {n t : Nat} {al : Int32} {fH fT : Nat → Option Nat} {hv tv ov : Nat → Nat → Int32} {aw : Nat → Nat} {ct : Nat → Option Nat} {fw : Nat → Nat → Option Nat} {lm : Nat → Int32} {cn lt ks : Int32} {kf : Nat → Int32} {fC : Nat → Option Nat} {fY fB : Nat → Int32} {mv : Nat → Nat → Int32} {th hn tn so : Int32} {fo : Nat → Int64} {hq tq wn : Nat → Nat}
theorem iv_C.lim {lm1 : Nat → Int32} (h : iv_C P ac h0 ad n t al fH fT hv tv ov aw ct fw lm cn lt ks kf fC fY fB) : iv_C (pm_up P (ad 3) (.inl (ac 0, 20, .inl lm1))) ac h0 ad n t al fH fT hv tv ov aw ct fw lm1 cn lt ks kf fC fY fB := by
  obtain ⟨g0, g1, g2, g3, g4, g6, g5, g7, g8, g9, gn, gy, gt⟩ := h
  have k : ∀ a e, P a = some e → iv_ok e = true → pm_up P (ad 3) (.inl (ac 0, 20, .inl lm1)) a = some e := fun a e h1 h2 => by rw [pm_n (iv_ne h1 g3 h2 rfl)]; exact h1
  refine ⟨k _ _ g0 rfl, k _ _ g1 rfl, k _ _ g2 rfl, pm_s, k _ _ g4 rfl, ?_, k _ _ g5 rfl, k _ _ g7 rfl, ?_, ?_, gn, gy.up g3 rfl, fun i x hx => k _ _ (gt i x hx) rfl⟩
  · rw [pm_n (pm_ne g6 g3 (by simp))]; exact g6
  · rw [pm_n (pm_ne g8 g3 (by simp))]; exact g8
  · rw [pm_n (pm_ne g9 g3 (by simp))]; exact g9
theorem iv_C.obj {n1 t1 : Nat} {al1 : Int32} (h : iv_C P ac h0 ad n t al fH fT hv tv ov aw ct fw lm cn lt ks kf fC fY fB) : iv_C (pm_up P h0 (.inr (0, [.ref (ad 1), .ref (ad 2), .ref (ad 3), .ref (ad 4), .ref (ad 5), .int (nI n1), .int (nI t1), .int al1]))) ac h0 ad n1 t1 al1 fH fT hv tv ov aw ct fw lm cn lt ks kf fC fY fB := by
  obtain ⟨g0, g1, g2, g3, g4, g6, g5, g7, g8, g9, gn, gy, gt⟩ := h
  refine ⟨pm_s, ?_, ?_, ?_, ?_, ?_, ?_, ?_, ?_, ?_, gn, gy.up g0 rfl, fun i x hx => ?_⟩
  · rw [pm_n (pm_ne g1 g0 (by simp))]; exact g1
  · rw [pm_n (pm_ne g2 g0 (by simp))]; exact g2
  · rw [pm_n (pm_ne g3 g0 (by simp))]; exact g3
  · rw [pm_n (pm_ne g4 g0 (by simp))]; exact g4
  · rw [pm_n (pm_ne g6 g0 (by simp))]; exact g6
  · rw [pm_n (pm_ne g5 g0 (by simp))]; exact g5
  · rw [pm_n (pm_ne g7 g0 (by simp))]; exact g7
  · rw [pm_n (pm_ne g8 g0 (by simp))]; exact g8
  · rw [pm_n (pm_ne g9 g0 (by simp))]; exact g9
  · rw [pm_n (pm_ne (gt i x hx) g0 (by simp))]; exact gt i x hx
/-- the rows of a ranking -/
theorem iv_C.rank {kg : Nat → Int32} {ks1 : Int32} (h : iv_C P ac h0 ad n t al fH fT hv tv ov aw ct fw lm cn lt ks kf fC fY fB) : iv_C (pm_up (pm_up P (ad 6) (.inl (ac 0, 40, .inl kg))) (ad 4) (.inr (4, [.ref (ad 6), .int ks1]))) ac h0 ad n t al fH fT hv tv ov aw ct fw lm cn lt ks1 kg fC fY fB := by
  obtain ⟨g0, g1, g2, g3, g4, g6, g5, g7, g8, g9, gn, gy, gt⟩ := h
  have n46 : ad 6 ≠ ad 4 := pm_ne g6 g4 (by simp)
  have k : ∀ a e, P a = some e → e ≠ .inr (4, [.ref (ad 6), .int ks]) → e ≠ .inl (ac 0, 40, .inl kf) → pm_up (pm_up P (ad 6) (.inl (ac 0, 40, .inl kg))) (ad 4) (.inr (4, [.ref (ad 6), .int ks1])) a = some e := fun a e h1 h2 h3 => by rw [pm_n (pm_ne h1 g4 h2), pm_n (pm_ne h1 g6 h3)]; exact h1
  have g4' : pm_up P (ad 6) (.inl (ac 0, 40, .inl kg)) (ad 4) = some (.inr (4, [.ref (ad 6), .int ks])) := by rw [pm_n n46.symm]; exact g4
  exact ⟨k _ _ g0 (by simp) (by simp), k _ _ g1 (by simp) (by simp), k _ _ g2 (by simp) (by simp), k _ _ g3 (by simp) (by simp), pm_s, by rw [pm_n n46]; exact pm_s, k _ _ g5 (by simp) (by simp), k _ _ g7 (by simp) (by simp), k _ _ g8 (by simp) (by simp), k _ _ g9 (by simp) (by simp), gn, (gy.up g6 rfl).up g4' rfl, fun i x hx => k _ _ (gt i x hx) (by simp) (by simp)⟩
/-- a hydrant's own cell -/
theorem iv_C.hyd {hv1 : Nat → Nat → Int32} {k q : Nat} (h : iv_C P ac h0 ad n t al fH fT hv tv ov aw ct fw lm cn lt ks kf fC fY fB) (hk : fH k = some q) (hag : ∀ i a, a ≠ q → hv1 i a = hv i a) : iv_C (pm_up P q (iv_h hv1 aw ct q)) ac h0 ad n t al fH fT hv1 tv ov aw ct fw lm cn lt ks kf fC fY fB := by
  obtain ⟨g0, g1, g2, g3, g4, g6, g5, g7, g8, g9, gn, gy, gt⟩ := h
  have gq := (gy k q hk).1
  have kk : ∀ a e, P a = some e → e ≠ iv_h hv aw ct q → pm_up P q (iv_h hv1 aw ct q) a = some e := fun a e h1 h2 => by rw [pm_n (pm_ne h1 gq h2)]; exact h1
  refine ⟨kk _ _ g0 (by simp), kk _ _ g1 (by simp), kk _ _ g2 (by simp), kk _ _ g3 (by simp), kk _ _ g4 (by simp), kk _ _ g6 (by simp), kk _ _ g5 (by simp), kk _ _ g7 (by simp), kk _ _ g8 (by simp), kk _ _ g9 (by simp), gn, fun i r hr => ?_, fun i x hx => kk _ _ (gt i x hx) (by simp)⟩
  obtain ⟨y1, y2, y3, y4⟩ := gy i r hr
  refine ⟨?_, kk _ _ y2 (by simp), fun j o ho => kk _ _ (y3 j o ho) (by simp), fun x hx => kk _ _ (y4 x hx) (by simp)⟩
  by_cases hrq : r = q
  · rw [hrq]; exact pm_s
  · rw [pm_n hrq, hag 0 r hrq, hag 1 r hrq, hag 2 r hrq, hag 3 r hrq, hag 4 r hrq, hag 6 r hrq, hag 7 r hrq, hag 8 r hrq, hag 9 r hrq]; exact y1
theorem hq_inj (hH : iv_H n t fH hv aw ct mv hq tq) (hn : n ≤ 40) {i j : Nat} (hi : i < n) (hj : j < n) (h : hq i = hq j) : i = j := by
  have h1 := (hH.2.2 i hi).1
  rw [h, (hH.2.2 j hj).1] at h1
  exact ((nI_eq (by omega) (by omega)).mp h1).symm
theorem hq_at (hH : iv_H n t fH hv aw ct mv hq tq) {j : Nat} (hj : j < n) : fH j = some (hq j) := by rw [hH.1 j, if_pos hj]
theorem upd_n {f : Nat → Int32} {a b : Nat} {x : Int32} (h : b ≠ a) : upd f a x b = f b := pk_un h
theorem upd_s {f : Nat → Int32} {a : Nat} {x : Int32} : upd f a x a = x := pk_us
end UP
