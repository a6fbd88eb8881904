/-! class and model in one world -/
abbrev iv_t (tv : Nat → Nat → Int32) (x : Nat) : va_E := .inr (2, [.int (tv 0 x), .int (tv 1 x), .int (tv 2 x), .int (tv 3 x), .int (tv 4 x), .int (tv 5 x)])
abbrev iv_o (ac : Nat → ClassId) (fo : Nat → Int64) : va_E := .inl (ac 1, 1, .inr (.inl fo))
abbrev iv_r (ac : Nat → ClassId) (k n : Nat) (f : Nat → Option Nat) : va_E := .inl (ac k, n, .inr (.inr (.inr (.inr f))))
def iv_C (P : pm_T) (ac : Nat → ClassId) (h0 : Nat) (ad : Nat → Nat) (n t : Nat) (al : Int32) (fH fT : Nat → Option Nat) (hv tv ov : Nat → Nat → Int32) (aw : Nat → Nat) (ct : Nat → Option Nat) (fw : Nat → Nat → Option Nat) (lm : Nat → Int32) (cn lt ks : Int32) (kf : Nat → Int32) (fC : Nat → Option Nat) (fY fB : Nat → Int32) : Prop :=
  P h0 = some (.inr (0, [.ref (ad 1), .ref (ad 2), .ref (ad 3), .ref (ad 4), .ref (ad 5), .int (nI n), .int (nI t), .int al])) ∧
  P (ad 1) = some (iv_r ac 3 40 fH) ∧ P (ad 2) = some (iv_r ac 4 100 fT) ∧ P (ad 3) = some (.inl (ac 0, 20, .inl lm)) ∧
  P (ad 4) = some (.inr (4, [.ref (ad 6), .int ks])) ∧ P (ad 6) = some (.inl (ac 0, 40, .inl kf)) ∧
  P (ad 5) = some (.inr (5, [.ref (ad 7), .ref (ad 8), .ref (ad 9), .int cn, .int lt])) ∧
  P (ad 7) = some (iv_r ac 3 6 fC) ∧ P (ad 8) = some (.inl (ac 0, 6, .inl fY)) ∧ P (ad 9) = some (.inl (ac 0, 6, .inl fB)) ∧ ad 8 ≠ ad 9 ∧
  hy_W P ac fH hv tv ov aw ct fw ∧ ∀ k x, fT k = some x → P x = some (iv_t tv x)
def iv_ok (e : va_E) : Bool := match e with
  | .inr (6, _) => false
  | .inr _ => true
  | .inl (_, _, .inl _) => false
  | .inl (_, _, .inr (.inl _)) => false
  | .inl _ => true
def iv_in (e : va_E) : Bool := match e with
  | .inl (_, _, .inl _) => true
  | _ => false
def iv_D (ad ma : Nat → Nat) : Prop := ∀ k, k < 18 → ad 3 ≠ ma k ∧ ad 6 ≠ ma k ∧ ad 8 ≠ ma k ∧ ad 9 ≠ ma k
section IV
variable {P Q : pm_T} {ac : Nat → ClassId} {h0 hm ao : Nat} {ad ma : Nat → Nat} {n t : Nat} {al : Int32} {fH fT : Nat → Option Nat} {hv tv ov : Nat → Nat → Int32} {aw : Nat → Nat} {ct : Nat → Option Nat} {fw : Nat → Nat → Option Nat} {lm : Nat → Int32} {cn lt ks : Int32} {kf : Nat → Int32} {fC : Nat → Option Nat} {fY fB : Nat → Int32} {mv : Nat → Nat → Int32} {th hn tn so : Int32} {fo : Nat → Int64}
theorem iv_ne {a b : Nat} {x y : va_E} {f : va_E → Bool} (h1 : P a = some x) (h2 : P b = some y) (g1 : f x = true) (g2 : f y = false) : a ≠ b := fun e => by
  rw [e, h2] at h1
  cases h1
  rw [g1] at g2
  cases g2
theorem iv_C.keep (h : iv_C P ac h0 ad n t al fH fT hv tv ov aw ct fw lm cn lt ks kf fC fY fB) (hk : ∀ a e, P a = some e → iv_ok e = true → Q a = some e) (h3 : Q (ad 3) = P (ad 3)) (h6 : Q (ad 6) = P (ad 6)) (h8 : Q (ad 8) = P (ad 8)) (h9 : Q (ad 9) = P (ad 9)) : iv_C Q ac h0 ad n t al fH fT hv tv ov aw ct fw lm cn lt ks kf fC fY fB := by
  obtain ⟨g0, g1, g2, g3, g4, g6, g5, g7, g8, g9, gn, gy, gt⟩ := h
  refine ⟨hk _ _ g0 rfl, hk _ _ g1 rfl, hk _ _ g2 rfl, h3.trans g3, hk _ _ g4 rfl, h6.trans g6, hk _ _ g5 rfl, hk _ _ g7 rfl, h8.trans g8, h9.trans g9, gn, fun k q hq => ?_, fun k x hx => hk _ _ (gt k x hx) rfl⟩
  obtain ⟨y1, y2, y3, y4⟩ := gy k q hq
  exact ⟨hk _ _ y1 rfl, hk _ _ y2 rfl, fun j o ho => hk _ _ (y3 j o ho) rfl, fun x hx => hk _ _ (y4 x hx) rfl⟩
theorem md_W.keep (h : md_W P ac hm ma mv th hn al tn so) (h1 : Q hm = P hm) (h2 : ∀ k, k < 18 → Q (ma k) = P (ma k)) : md_W Q ac hm ma mv th hn al tn so := ⟨h1.trans h.1, fun k hk => (h2 k hk).trans (h.2.1 k hk), h.2.2⟩
theorem md_ne (h : md_W P ac hm ma mv th hn al tn so) {a : Nat} {e : va_E} (ha : P a = some e) (he : iv_ok e = true) : a ≠ hm ∧ ∀ k, k < 18 → a ≠ ma k := ⟨iv_ne ha h.1 he rfl, fun k hk => iv_ne ha (h.2.1 k hk) he rfl⟩
theorem md_neo (h : md_W P ac hm ma mv th hn al tn so) (ha : P ao = some (iv_o ac fo)) : ao ≠ hm ∧ ∀ k, k < 18 → ao ≠ ma k := ⟨fun e => (by rw [e, h.1] at ha; cases ha), fun k hk e => iv_ne (f := iv_in) (h.2.1 k hk) ha rfl rfl e.symm⟩
theorem md_new (h : md_W P ac hm ma mv th hn al tn so) {a : Nat} (ha : P a = none) : a ≠ hm ∧ ∀ k, k < 18 → a ≠ ma k := ⟨fun e => (by rw [e, h.1] at ha; cases ha), fun k hk e => (by rw [e, h.2.1 k hk] at ha; cases ha)⟩
theorem md_W.up {a : Nat} {x : va_E} (h : md_W P ac hm ma mv th hn al tn so) (hne : a ≠ hm ∧ ∀ k, k < 18 → a ≠ ma k) : md_W (pm_up P a x) ac hm ma mv th hn al tn so := h.keep (pm_n hne.1.symm) (fun k hk => pm_n (hne.2 k hk).symm)
/-- the law's row is written -/
theorem iv_C.out (h : iv_C P ac h0 ad n t al fH fT hv tv ov aw ct fw lm cn lt ks kf fC fY fB) (ha : P ao = some (iv_o ac fo)) {x : va_E} : iv_C (pm_up P ao x) ac h0 ad n t al fH fT hv tv ov aw ct fw lm cn lt ks kf fC fY fB := by
  have hi : ∀ a e, P a = some e → iv_in e = true → pm_up P ao x a = P a := fun a e h1 h2 => pm_n (iv_ne h1 ha h2 rfl)
  exact h.keep (fun a e h1 h2 => by rw [pm_n (iv_ne h1 ha h2 rfl)]; exact h1) (hi _ _ h.2.2.2.1 rfl) (hi _ _ h.2.2.2.2.2.1 rfl) (hi _ _ h.2.2.2.2.2.2.2.2.1 rfl) (hi _ _ h.2.2.2.2.2.2.2.2.2.1 rfl)
/-- the model has gone on -/
theorem iv_C.mdl (h : iv_C P ac h0 ad n t al fH fT hv tv ov aw ct fw lm cn lt ks kf fC fY fB) {al1 tn1 so1 : Int32} (hw : md_W P ac hm ma mv th hn al1 tn1 so1) (hF : md_F P Q hm ma) (hD : iv_D ad ma) : iv_C Q ac h0 ad n t al fH fT hv tv ov aw ct fw lm cn lt ks kf fC fY fB := by
  have hi : ∀ a e, P a = some e → iv_in e = true → (∀ k, k < 18 → a ≠ ma k) → Q a = P a := fun a e h1 h2 h3 => hF a (fun e9 => by rw [e9, hw.1] at h1; cases h1; cases h2) h3
  exact h.keep (fun a e h1 h2 => by rw [hF a (md_ne hw h1 h2).1 (md_ne hw h1 h2).2]; exact h1) (hi _ _ h.2.2.2.1 rfl (fun k hk => (hD k hk).1)) (hi _ _ h.2.2.2.2.2.1 rfl (fun k hk => (hD k hk).2.1)) (hi _ _ h.2.2.2.2.2.2.2.2.1 rfl (fun k hk => (hD k hk).2.2.1)) (hi _ _ h.2.2.2.2.2.2.2.2.2.1 rfl (fun k hk => (hD k hk).2.2.2))
end IV
/-- what the class's numbers and the model's have to do with each other -/
def iv_H (n t : Nat) (fH : Nat → Option Nat) (hv : Nat → Nat → Int32) (aw : Nat → Nat) (ct : Nat → Option Nat) (mv : Nat → Nat → Int32) (hq tq : Nat → Nat) : Prop :=
  (∀ k, fH k = if k < n then some (hq k) else none) ∧ (∀ i j, i < n → j < n → aw (hq i) = aw (hq j) → i = j) ∧
  ∀ k, k < n → hv 0 (hq k) = nI k ∧ hv 1 (hq k) = mv 0 k ∧ hv 2 (hq k) = mv 1 k ∧ hv 3 (hq k) = mv 2 k ∧ hv 4 (hq k) = mv 3 k ∧ hv 6 (hq k) = mv 5 k ∧ hv 7 (hq k) = mv 4 k ∧ hv 9 (hq k) = nI (su_nct (mv 10) (nI k) t) ∧ ct (hq k) = (su_cm (mv 10) (mv 11) (nI k) t).map tq ∧ ∀ m, m < 12 → su_bit (hv 8 (hq k)) (nI m) = mv 8 (12 * k + m)
def iv_O (n : Nat) (ov : Nat → Nat → Int32) (fw : Nat → Nat → Option Nat) (mv : Nat → Nat → Int32) (hq wn : Nat → Nat) : Prop :=
  ∀ k, k < n → wn k ≤ 3 ∧ mv 5 k = nI (wn k) ∧ ∀ i, i < 3 → (i < wn k → ∃ o, fw (hq k) i = some o ∧ ov 0 o = mv 6 (3 * k + i) ∧ ov 1 o = mv 7 (3 * k + i)) ∧ (wn k ≤ i → fw (hq k) i = none)
def iv_T (t : Nat) (fT : Nat → Option Nat) (tv : Nat → Nat → Int32) (mv : Nat → Nat → Int32) (tq : Nat → Nat) : Prop :=
  (∀ k, fT k = if k < t then some (tq k) else none) ∧ ∀ i, i < t → tv 0 (tq i) = nI i ∧ tv 1 (tq i) = mv 10 i ∧ tv 2 (tq i) = mv 11 i ∧ tv 3 (tq i) = mv 12 i ∧ tv 4 (tq i) = mv 13 i ∧ tv 5 (tq i) = mv 14 i
/-- the model's own bounds -/
def iv_B (n t : Nat) (al so : Int32) (mv : Nat → Nat → Int32) : Prop :=
  (n ≤ 40 ∧ t ≤ 100) ∧ (al = 0 ∨ al = 1) ∧ (∃ c, c ≤ 6 ∧ so = nI c) ∧
  (∀ k, k < n → su_pm (mv 0 k) (mv 1 k) = 1 ∧ (∃ m, m < 20 ∧ mv 2 k = nI m) ∧ (¬ mv 3 k = 2 → ∀ m, m < 12 → mv 8 (12 * k + m) = 0)) ∧
  (∀ i, i < t → (∃ d, d ≤ 99999 ∧ mv 11 i = nI d) ∧ (∃ r, r ≤ 2000 ∧ mv 12 i = nI r) ∧ (∃ f, f ≤ 20000 ∧ mv 13 i = nI f) ∧ ∃ l, l ≤ 2000 ∧ mv 14 i = nI l) ∧
  (∀ i, i < t → mv 14 i ≤ mv 12 i) ∧ (∀ i, i < t → ∃ j, j < n ∧ mv 10 i = nI j) ∧
  ∀ k, n ≤ k → k < 40 → mv 4 k = 0 ∧ mv 5 k = 0 ∧ ∀ m, m < 12 → mv 8 (12 * k + m) = 0
def iv_L (lm : Nat → Int32) (cn so : Int32) (fB : Nat → Int32) (mv : Nat → Nat → Int32) : Prop := (∀ m, m < 20 → lm m = mv 9 m) ∧ cn = so ∧ ∀ i, nI i < so → i < 6 → fB i = mv 17 i
def iv_P (n t : Nat) (al : Int32) (fH fT : Nat → Option Nat) (hv tv ov : Nat → Nat → Int32) (aw : Nat → Nat) (ct : Nat → Option Nat) (fw : Nat → Nat → Option Nat) (lm : Nat → Int32) (cn : Int32) (fB : Nat → Int32) (mv : Nat → Nat → Int32) (so : Int32) (hq tq wn : Nat → Nat) : Prop :=
  iv_H n t fH hv aw ct mv hq tq ∧ iv_O n ov fw mv hq wn ∧ iv_T t fT tv mv tq ∧ iv_B n t al so mv ∧ iv_L lm cn so fB mv
def iv_I (P : pm_T) (ac : Nat → ClassId) (h0 hm ao : Nat) (th : Int32) : Prop :=
  ∃ (ad ma : Nat → Nat) (n t : Nat) (al so : Int32) (fH fT : Nat → Option Nat) (hv tv ov : Nat → Nat → Int32) (aw : Nat → Nat) (ct : Nat → Option Nat) (fw : Nat → Nat → Option Nat) (lm : Nat → Int32) (cn lt ks : Int32) (kf : Nat → Int32) (fC : Nat → Option Nat) (fY fB : Nat → Int32) (mv : Nat → Nat → Int32) (hq tq wn : Nat → Nat) (fo : Nat → Int64),
    iv_C P ac h0 ad n t al fH fT hv tv ov aw ct fw lm cn lt ks kf fC fY fB ∧ md_W P ac hm ma mv th (nI n) al (nI t) so ∧ iv_D ad ma ∧ P ao = some (iv_o ac fo) ∧ iv_P n t al fH fT hv tv ov aw ct fw lm cn fB mv so hq tq wn
section IW
variable {P Q : pm_T} {ac : Nat → ClassId} {h0 hm ao : Nat} {ad ma : Nat → Nat} {n t : Nat} {al : Int32} {fH fT : Nat → Option Nat} {hv tv ov : Nat → Nat → Int32} {aw : Nat → Nat} {ct : Nat → Option Nat} {fw : Nat → Nat → Option Nat} {lm : Nat → Int32} {cn lt ks : Int32} {kf : Nat → Int32} {fC : Nat → Option Nat} {fY fB : Nat → Int32} {mv mv1 : Nat → Nat → Int32} {th so th1 so1 : Int32} {fo : Nat → Int64} {hq tq wn : Nat → Nat} {hn1 al1 tn1 : Int32}
/-- behind the model's call -/
theorem iv_fin (hC : iv_C P ac h0 ad n t al fH fT hv tv ov aw ct fw lm cn lt ks kf fC fY fB) (hw : md_W P ac hm ma mv1 th1 hn1 al1 tn1 so1) (hD : iv_D ad ma) (ho : P ao = some (iv_o ac fo)) (hF : md_F P Q hm ma) (hw1 : md_W Q ac hm ma mv th (nI n) al (nI t) so) (hP : iv_P n t al fH fT hv tv ov aw ct fw lm cn fB mv so hq tq wn) : iv_I Q ac h0 hm ao th ∧ Q ao = some (iv_o ac fo) := by
  have h1 : Q ao = some (iv_o ac fo) := by rw [hF ao (md_neo hw ho).1 (md_neo hw ho).2]; exact ho
  have hC1 : iv_C Q ac h0 ad n t al fH fT hv tv ov aw ct fw lm cn lt ks kf fC fY fB := hC.mdl hw hF hD
  exact ⟨⟨ad, ma, n, t, al, so, fH, fT, hv, tv, ov, aw, ct, fw, lm, cn, lt, ks, kf, fC, fY, fB, mv, hq, tq, wn, fo, hC1, hw1, hD, h1, hP⟩, h1⟩
end IW
