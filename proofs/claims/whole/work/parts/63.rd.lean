/-! rounds: the class's search finds the least way, and of such the first -/
def rd_p (xx yy : Nat → Int32) (o : Nat → Nat) : Nat → Int32 × Int32
  | 0 => (0, 0)
  | d + 1 => (xx (o d), yy (o d))
def rd_m (xx yy : Nat → Int32) (o : Nat → Nat) : Nat → Nat
  | 0 => 0
  | d + 1 => rd_m xx yy o d + su_ds1 (xx (o d)) (yy (o d)) (rd_p xx yy o d).1 (rd_p xx yy o d).2
def rd_M (xx yy : Nat → Int32) (o : Nat → Nat) (c : Nat) : Nat := rd_m xx yy o c + su_ds1 (rd_p xx yy o c).1 (rd_p xx yy o c).2 0 0
def rd_ok (c : Nat) (o : Nat → Nat) : Prop := (∀ i, i < c → o i < c) ∧ ∀ i j, i < c → j < c → o i = o j → i = j
def rd_E (c d : Nat) (o0 o : Nat → Nat) : Prop := rd_ok c o ∧ ∀ i, i < d → o i = o0 i
section RD
variable {c : Nat} {num xx yy : Nat → Int32}
theorem rd_cg {o o1 : Nat → Nat} : ∀ {d : Nat}, (∀ i, i < d → o i = o1 i) → rd_m xx yy o d = rd_m xx yy o1 d ∧ rd_p xx yy o d = rd_p xx yy o1 d
  | 0, _ => ⟨rfl, rfl⟩
  | d + 1, h => by
    obtain ⟨h1, h2⟩ := rd_cg (o := o) (o1 := o1) (d := d) (fun i hi => h i (by omega))
    refine ⟨?_, ?_⟩
    · show rd_m xx yy o d + su_ds1 (xx (o d)) (yy (o d)) (rd_p xx yy o d).1 (rd_p xx yy o d).2 = rd_m xx yy o1 d + su_ds1 (xx (o1 d)) (yy (o1 d)) (rd_p xx yy o1 d).1 (rd_p xx yy o1 d).2
      rw [h1, h2, h d (by omega)]
    · show (xx (o d), yy (o d)) = (xx (o1 d), yy (o1 d))
      rw [h d (by omega)]
theorem rd_pp (hp : ∀ i, i < c → su_pm (xx i) (yy i) = 1) {o : Nat → Nat} : ∀ {d : Nat}, (∀ i, i < d → o i < c) → su_pm (rd_p xx yy o d).1 (rd_p xx yy o d).2 = 1
  | 0, _ => show su_pm 0 0 = 1 from by decide
  | d + 1, h => hp (o d) (h d (by omega))
theorem rd_mb (hp : ∀ i, i < c → su_pm (xx i) (yy i) = 1) {o : Nat → Nat} : ∀ {d : Nat}, (∀ i, i < d → o i < c) → rd_m xx yy o d ≤ d * 200000
  | 0, _ => Nat.le_refl 0
  | d + 1, h => by
    have h1 := rd_mb hp (o := o) (d := d) (fun i hi => h i (by omega))
    have h2 := (su_hose_n (hp (o d) (h d (by omega))) (rd_pp hp (o := o) (d := d) (fun i hi => h i (by omega)))).2.2
    simp only [rd_m]
    omega
theorem rd_home (hp : ∀ i, i < c → su_pm (xx i) (yy i) = 1) {o : Nat → Nat} {d : Nat} (h : ∀ i, i < d → o i < c) : su_hose (rd_p xx yy o d).1 (rd_p xx yy o d).2 0 0 = nI (su_ds1 (rd_p xx yy o d).1 (rd_p xx yy o d).2 0 0) ∧ su_ds1 (rd_p xx yy o d).1 (rd_p xx yy o d).2 0 0 ≤ 200000 :=
  ⟨(su_hose_n (rd_pp hp h) (show su_pm 0 0 = 1 by decide)).1, (su_hose_n (rd_pp hp h) (show su_pm 0 0 = 1 by decide)).2.2⟩
theorem rd_tri {o : Nat → Nat} {d : Nat} : ∀ k, rd_m xx yy o d + su_ds1 (rd_p xx yy o d).1 (rd_p xx yy o d).2 0 0 ≤ rd_m xx yy o (d + k) + su_ds1 (rd_p xx yy o (d + k)).1 (rd_p xx yy o (d + k)).2 0 0
  | 0 => Nat.le_refl _
  | k + 1 => by
    have ih := rd_tri (o := o) (d := d) k
    refine Nat.le_trans ih ?_
    show _ ≤ rd_m xx yy o (d + k) + su_ds1 (xx (o (d + k))) (yy (o (d + k))) (rd_p xx yy o (d + k)).1 (rd_p xx yy o (d + k)).2 + su_ds1 (xx (o (d + k))) (yy (o (d + k))) 0 0
    have e0 : (0 : Int32).toInt = 0 := by decide
    unfold su_ds1
    rw [e0]
    omega
def rd_R (c : Nat) (num xx yy : Nat → Int32) (E : (Nat → Nat) → Prop) (s s1 : su_S) : Prop :=
  (s1.2.1 = s.2.1 ∧ s1.2.2 = s.2.2 ∧ ∀ o, E o → s.2.2 ≤ nI (rd_M xx yy o c)) ∨ (∃ o1, E o1 ∧ nI (rd_M xx yy o1 c) < s.2.2 ∧ s1.2.2 = nI (rd_M xx yy o1 c) ∧ (∀ i, i < c → s1.2.1 i = num (o1 i)) ∧ ∀ o, E o → rd_M xx yy o1 c ≤ rd_M xx yy o c ∧ (rd_M xx yy o c = rd_M xx yy o1 c → su_ahf (fun i => num (o i)) (fun i => num (o1 i)) c 0 = 0))
theorem su_ahf_pre {f g : Nat → Int32} : ∀ {r i d : Nat}, i ≤ d → d < i + r → (∀ k, i ≤ k → k < d → f k = g k) → g d < f d → su_ahf f g r i = 0
  | 0, i, d, h1, h2, _, _ => by omega
  | r + 1, i, d, h1, h2, h3, h4 => by
    simp only [su_ahf]
    rcases Nat.lt_or_eq_of_le h1 with h5 | h5
    · rw [if_pos (h3 i (Nat.le_refl i) h5)]
      exact su_ahf_pre (i := i + 1) (d := d) h5 (by omega) (fun k h6 h7 => h3 k (by omega) h7) h4
    · subst h5
      rw [if_neg (fun h => by rw [h] at h4; exact su_irr _ h4), if_pos (Int32.le_of_lt h4)]
theorem su_ahf_anti {f g : Nat → Int32} : ∀ {r i : Nat}, su_ahf f g r i = 0 → su_ahf g f r i = 0 → ∀ k, i ≤ k → k < i + r → f k = g k
  | 0, i, _, _, k, h1, h2 => by omega
  | r + 1, i, h3, h4, k, h1, h2 => by
    simp only [su_ahf] at h3 h4
    by_cases h5 : f i = g i
    · rw [if_pos h5] at h3
      rw [if_pos h5.symm] at h4
      rcases Nat.lt_or_eq_of_le h1 with h6 | h6
      · exact su_ahf_anti h3 h4 k h6 (by omega)
      · rw [← h6]; exact h5
    · rw [if_neg h5] at h3
      rw [if_neg (fun h => h5 h.symm)] at h4
      by_cases h6 : g i ≤ f i
      · by_cases h7 : f i ≤ g i
        · refine absurd ?_ h5
          rw [Int32.le_iff_toInt_le] at h6 h7
          exact Int32.toInt_inj.mp (by omega)
        · rw [if_neg h7] at h4; exact absurd h4 (by decide)
      · rw [if_neg h6] at h3; exact absurd h3 (by decide)
/-- a way that is complete -/
theorem rd_leaf (hc : c ≤ 6) (hp : ∀ i, i < c → su_pm (xx i) (yy i) = 1) {o0 : Nat → Nat} (hok : rd_ok c o0) {s : su_S} (hw : ∀ i, i < c → s.1 i = num (o0 i)) : rd_R c num xx yy (rd_E c c o0) s (if nI (rd_M xx yy o0 c) < s.2.2 then (s.1, s.1, nI (rd_M xx yy o0 c)) else s) := by
  have hM : ∀ o, rd_E c c o0 o → rd_M xx yy o c = rd_M xx yy o0 c := fun o ho => by
    obtain ⟨h1, h2⟩ := rd_cg (xx := xx) (yy := yy) ho.2
    unfold rd_M
    rw [h1, h2]
  by_cases h : nI (rd_M xx yy o0 c) < s.2.2
  · rw [if_pos h]
    refine .inr ⟨o0, ⟨hok, fun i _ => rfl⟩, h, rfl, hw, fun o ho => ⟨by rw [hM o ho]; exact Nat.le_refl _, fun _ => su_ahf_eq (fun k _ hk => ?_)⟩⟩
    show num (o k) = num (o0 k)
    rw [ho.2 k (by omega)]
  · rw [if_neg h]
    exact .inl ⟨rfl, rfl, fun o ho => by rw [hM o ho]; exact Int32.not_lt.mp h⟩
/-- one more choice -/
theorem rd_join {d i : Nat} (hc : c ≤ 6) (hd : d < c) (hpM : ∀ o, rd_ok c o → rd_M xx yy o c < 2 ^ 31) (hnum : ∀ a b, a < c → b < c → a < b → num a < num b) {o0 : Nat → Nat} {s s1 s2 : su_S} {w : Nat → Int32} (h1 : rd_R c num xx yy (fun o => rd_E c d o0 o ∧ o d < i) s s1) (h2 : rd_R c num xx yy (fun o => rd_E c d o0 o ∧ o d = i) (w, s1.2.1, s1.2.2) s2) : rd_R c num xx yy (fun o => rd_E c d o0 o ∧ o d < i + 1) s s2 := by
  rcases h1 with ⟨a1, a2, a3⟩ | ⟨o1, a1, a2, a3, a4, a5⟩
  · rcases h2 with ⟨b1, b2, b3⟩ | ⟨o2, b1, b2, b3, b4, b5⟩
    · refine .inl ⟨b1.trans a1, b2.trans a2, fun o ho => ?_⟩
      rcases Nat.lt_or_eq_of_le (Nat.le_of_lt_succ ho.2) with h | h
      · exact a3 o ⟨ho.1, h⟩
      · have := b3 o ⟨ho.1, h⟩
        rw [← a2]; exact this
    · have b2' : nI (rd_M xx yy o2 c) < s.2.2 := by rw [← a2]; exact b2
      refine .inr ⟨o2, ⟨b1.1, by omega⟩, b2', b3, b4, fun o ho => ?_⟩
      rcases Nat.lt_or_eq_of_le (Nat.le_of_lt_succ ho.2) with h | h
      · have h3 := Int32.lt_of_lt_of_le b2' (a3 o ⟨ho.1, h⟩)
        rw [nI_ltI (hpM _ b1.1.1) (hpM _ ho.1.1)] at h3
        exact ⟨by omega, fun e => by omega⟩
      · exact b5 o ⟨ho.1, h⟩
  · rcases h2 with ⟨b1, b2, b3⟩ | ⟨o2, b1, b2, b3, b4, b5⟩
    · refine .inr ⟨o1, ⟨a1.1, by omega⟩, a2, b2.trans a3, fun k hk => by rw [b1]; exact a4 k hk, fun o ho => ?_⟩
      rcases Nat.lt_or_eq_of_le (Nat.le_of_lt_succ ho.2) with h | h
      · exact a5 o ⟨ho.1, h⟩
      · have h3 := b3 o ⟨ho.1, h⟩
        have h3 : s1.2.2 ≤ nI (rd_M xx yy o c) := h3
        rw [a3, nI_leI (hpM _ a1.1.1) (hpM _ ho.1.1)] at h3
        refine ⟨h3, fun _ => su_ahf_pre (d := d) (Nat.zero_le d) (by omega) (fun k _ hk => ?_) ?_⟩
        · show num (o k) = num (o1 k)
          rw [ho.1.2 k hk, a1.1.2 k hk]
        · exact hnum _ _ (a1.1.1.1 d hd) (ho.1.1.1 d hd) (by have := a1.2; omega)
    · have b2 : nI (rd_M xx yy o2 c) < s1.2.2 := b2
      refine .inr ⟨o2, ⟨b1.1, by omega⟩, by rw [a3] at b2; exact Int32.lt_trans b2 a2, b3, b4, fun o ho => ?_⟩
      rcases Nat.lt_or_eq_of_le (Nat.le_of_lt_succ ho.2) with h | h
      · have h3 := (a5 o ⟨ho.1, h⟩).1
        rw [a3, nI_ltI (hpM _ b1.1.1) (hpM _ a1.1.1)] at b2
        exact ⟨by omega, fun e => by omega⟩
      · exact b5 o ⟨ho.1, h⟩
theorem rd_or {gone : Int32} {i k : Nat} (hi : i < 6) (hk : k < 6) : su_bit (gone ||| ((1 : Int32) <<< (nI i &&& 31))) (nI k) = if k = i then 1 else su_bit gone (nI k) := by
  have h := su_set_bit (w := gone) (on := 1) (m := i) (k := k) (by omega) (by omega) (.inr rfl)
  rw [su_set, if_neg (show ¬ (1 : Int32) = 0 by decide)] at h
  exact h
theorem rd_go (hc : c ≤ 6) (hp : ∀ i, i < c → su_pm (xx i) (yy i) = 1) (hnum : ∀ a b, a < c → b < c → a < b → num a < num b) : ∀ (f d : Nat), d + f = 6 → d ≤ c → ∀ (o0 : Nat → Nat) (gone x y m : Int32) (s : su_S), (∀ i, i < d → o0 i < c) → (∀ i j, i < d → j < d → o0 i = o0 j → i = j) → (∀ k, k < 6 → (su_bit gone (nI k) = 0 ↔ ∀ i, i < d → o0 i ≠ k)) → (x, y) = rd_p xx yy o0 d → m = nI (rd_m xx yy o0 d) → (∀ i, i < d → s.1 i = num (o0 i)) → rd_R c num xx yy (rd_E c d o0) s (su_go c num xx yy f d gone x y m s) ∧ ∀ i, i < d → (su_go c num xx yy f d gone x y m s).1 i = s.1 i := by
  have hpM : ∀ o, rd_ok c o → rd_M xx yy o c < 2 ^ 31 := fun o ho => by
    have h1 := rd_mb hp (o := o) (d := c) ho.1
    have h2 := (rd_home hp (o := o) (d := c) ho.1).2
    unfold rd_M
    have : c * 200000 ≤ 6 * 200000 := Nat.mul_le_mul_right _ hc
    omega
  intro f
  induction f with
  | zero =>
    intro d hd hdc o0 gone x y m s h1 h2 h3 h4 h5 h6
    have hd6 : d = c := by omega
    subst hd6
    have hok : rd_ok d o0 := ⟨h1, h2⟩
    have ex : x = (rd_p xx yy o0 d).1 := by rw [← h4]
    have ey : y = (rd_p xx yy o0 d).2 := by rw [← h4]
    have eM : m + su_hose x y 0 0 = nI (rd_M xx yy o0 d) := by
      rw [ex, ey, (rd_home hp h1).1, h5, nI_add]; rfl
    simp only [su_go, eM]
    refine ⟨rd_leaf hc hp hok h6, fun i hi => ?_⟩
    by_cases h : nI (rd_M xx yy o0 d) < s.2.2
    · rw [if_pos h]
    · rw [if_neg h]
  | succ f ih =>
    intro d hd hdc o0 gone x y m s h1 h2 h3 h4 h5 h6
    have ex : x = (rd_p xx yy o0 d).1 := by rw [← h4]
    have ey : y = (rd_p xx yy o0 d).2 := by rw [← h4]
    have eM : m + su_hose x y 0 0 = nI (rd_m xx yy o0 d + su_ds1 (rd_p xx yy o0 d).1 (rd_p xx yy o0 d).2 0 0) := by
      rw [ex, ey, (rd_home hp h1).1, h5, nI_add]
    simp only [su_go, eM]
    by_cases hh : nI (rd_m xx yy o0 d + su_ds1 (rd_p xx yy o0 d).1 (rd_p xx yy o0 d).2 0 0) < s.2.2
    · rw [if_pos hh]
      by_cases hcd : c ≤ d
      · have hd6 : d = c := by omega
        subst hd6
        rw [if_pos hcd]
        have h7 := rd_leaf (num := num) hc hp (o0 := o0) ⟨h1, h2⟩ (s := s) h6
        rw [show rd_M xx yy o0 d = rd_m xx yy o0 d + su_ds1 (rd_p xx yy o0 d).1 (rd_p xx yy o0 d).2 0 0 from rfl, if_pos hh] at h7
        exact ⟨h7, fun i hi => rfl⟩
      · rw [if_neg hcd]
        have hdc1 : d < c := by omega
        have key : ∀ i, i ≤ 6 → rd_R c num xx yy (fun o => rd_E c d o0 o ∧ o d < i) s (su_it c gone d num (fun i t => su_go c num xx yy f (d + 1) (gone ||| ((1 : Int32) <<< (nI i &&& 31))) (xx i) (yy i) (m + su_hose (xx i) (yy i) x y) t) s i) ∧ ∀ k, k < d → (su_it c gone d num (fun i t => su_go c num xx yy f (d + 1) (gone ||| ((1 : Int32) <<< (nI i &&& 31))) (xx i) (yy i) (m + su_hose (xx i) (yy i) x y) t) s i).1 k = s.1 k := by
          intro i
          induction i with
          | zero => exact fun _ => ⟨.inl ⟨rfl, rfl, fun o ho => absurd ho.2 (Nat.not_lt_zero _)⟩, fun k _ => rfl⟩
          | succ i jh =>
            intro hi
            obtain ⟨j1, j2⟩ := jh (by omega)
            simp only [su_it]
            generalize su_it c gone d num (fun i t => su_go c num xx yy f (d + 1) (gone ||| ((1 : Int32) <<< (nI i &&& 31))) (xx i) (yy i) (m + su_hose (xx i) (yy i) x y) t) s i = s1 at j1 j2
            unfold su_st
            by_cases hcond : i < c ∧ su_bit gone (nI i) = 0
            · rw [if_pos hcond]
              have hnew := (h3 i (by omega)).mp hcond.2
              have e1 : ∀ k, k < d → va_up o0 d i k = o0 k := fun k hk => vq_n (by omega)
              have hcg := rd_cg (xx := xx) (yy := yy) (o := va_up o0 d i) (o1 := o0) (d := d) e1
              have IH := ih (d + 1) (by omega) (by omega) (va_up o0 d i) (gone ||| ((1 : Int32) <<< (nI i &&& 31))) (xx i) (yy i) (m + su_hose (xx i) (yy i) x y) (upd s1.1 d (num i), s1.2.1, s1.2.2)
                (fun k hk => by
                  rcases Nat.lt_or_eq_of_le (Nat.le_of_lt_succ hk) with h | h
                  · rw [e1 k h]; exact h1 k h
                  · rw [h, vq_s]; exact hcond.1)
                (fun a b ha hb e => by
                  rcases Nat.lt_or_eq_of_le (Nat.le_of_lt_succ ha) with h | h
                  · rcases Nat.lt_or_eq_of_le (Nat.le_of_lt_succ hb) with h' | h'
                    · rw [e1 a h, e1 b h'] at e; exact h2 a b h h' e
                    · rw [e1 a h, h', vq_s] at e; exact absurd e (hnew a h)
                  · rcases Nat.lt_or_eq_of_le (Nat.le_of_lt_succ hb) with h' | h'
                    · rw [h, vq_s, e1 b h'] at e; exact absurd e.symm (hnew b h')
                    · omega)
                (fun k hk => by
                  rw [rd_or (by omega) hk]
                  by_cases hki : k = i
                  · rw [if_pos hki]
                    exact ⟨fun h => absurd h (by decide), fun h => absurd (by rw [vq_s, hki]) (h d (by omega))⟩
                  · rw [if_neg hki, h3 k hk]
                    constructor
                    · intro h a ha
                      rcases Nat.lt_or_eq_of_le (Nat.le_of_lt_succ ha) with h' | h'
                      · rw [e1 a h']; exact h a h'
                      · rw [h', vq_s]; exact fun e => hki e.symm
                    · intro h a ha
                      rw [← e1 a ha]; exact h a (by omega))
                (by show (xx i, yy i) = (xx (va_up o0 d i d), yy (va_up o0 d i d)); rw [vq_s])
                (by
                  simp only [rd_m, vq_s, hcg.1, hcg.2]
                  rw [h5, ex, ey, (su_hose_n (hp i hcond.1) (rd_pp hp h1)).1, nI_add])
                (fun k hk => by
                  show upd s1.1 d (num i) k = num (va_up o0 d i k)
                  rcases Nat.lt_or_eq_of_le (Nat.le_of_lt_succ hk) with h | h
                  · rw [upd_n (by omega), e1 k h, j2 k h, h6 k h]
                  · rw [h, upd_s, vq_s])
              obtain ⟨i1, i2⟩ := IH
              refine ⟨rd_join hc hdc1 hpM hnum j1 (w := upd s1.1 d (num i)) ?_, fun k hk => ?_⟩
              · have hE : ∀ o, rd_E c (d + 1) (va_up o0 d i) o ↔ rd_E c d o0 o ∧ o d = i := fun o => by
                  constructor
                  · intro ho
                    exact ⟨⟨ho.1, fun k hk => by rw [ho.2 k (by omega), e1 k hk]⟩, by rw [ho.2 d (by omega), vq_s]⟩
                  · intro ho
                    refine ⟨ho.1.1, fun k hk => ?_⟩
                    rcases Nat.lt_or_eq_of_le (Nat.le_of_lt_succ hk) with h | h
                    · rw [e1 k h]; exact ho.1.2 k h
                    · rw [h, vq_s]; exact ho.2
                rcases i1 with ⟨a1, a2, a3⟩ | ⟨o1, a1, a2, a3, a4, a5⟩
                · exact .inl ⟨a1, a2, fun o ho => a3 o ((hE o).mpr ho)⟩
                · exact .inr ⟨o1, (hE o1).mp a1, a2, a3, a4, fun o ho => a5 o ((hE o).mpr ho)⟩
              · rw [i2 k (by omega)]
                show upd s1.1 d (num i) k = s.1 k
                rw [upd_n (by omega)]; exact j2 k hk
            · rw [if_neg hcond]
              refine ⟨?_, j2⟩
              have hE : ∀ o, rd_E c d o0 o ∧ o d < i + 1 → rd_E c d o0 o ∧ o d < i := fun o ho => by
                refine ⟨ho.1, ?_⟩
                rcases Nat.lt_or_eq_of_le (Nat.le_of_lt_succ ho.2) with h | h
                · exact h
                · refine absurd ⟨by rw [← h]; exact ho.1.1.1 d hdc1, (h3 i (by omega)).mpr (fun a ha e => ?_)⟩ hcond
                  have h7 := ho.1.1.2 a d (by omega) hdc1 (by rw [ho.1.2 a ha, e, h])
                  omega
              rcases j1 with ⟨a1, a2, a3⟩ | ⟨o1, a1, a2, a3, a4, a5⟩
              · exact .inl ⟨a1, a2, fun o ho => a3 o (hE o ho)⟩
              · exact .inr ⟨o1, ⟨a1.1, by omega⟩, a2, a3, a4, fun o ho => a5 o (hE o ho)⟩
        obtain ⟨k1, k2⟩ := key 6 (Nat.le_refl 6)
        refine ⟨?_, k2⟩
        have hE : ∀ o, rd_E c d o0 o → rd_E c d o0 o ∧ o d < 6 := fun o ho => ⟨ho, by have := ho.1.1 d hdc1; omega⟩
        rcases k1 with ⟨a1, a2, a3⟩ | ⟨o1, a1, a2, a3, a4, a5⟩
        · exact .inl ⟨a1, a2, fun o ho => a3 o (hE o ho)⟩
        · exact .inr ⟨o1, a1.1, a2, a3, a4, fun o ho => a5 o (hE o ho)⟩
    · rw [if_neg hh]
      refine ⟨.inl ⟨rfl, rfl, fun o ho => ?_⟩, fun i _ => rfl⟩
      refine Int32.le_trans (Int32.not_lt.mp hh) ?_
      obtain ⟨g1, g2⟩ := rd_cg (xx := xx) (yy := yy) ho.2
      have ht := rd_tri (xx := xx) (yy := yy) (o := o) (d := d) (c - d)
      rw [show d + (c - d) = c from by omega, g1, g2] at ht
      exact nI_le ht (hpM o ho.1)
/-- the whole search -/
theorem rd_all (hc : c ≤ 6) (hp : ∀ i, i < c → su_pm (xx i) (yy i) = 1) (hnum : ∀ a b, a < c → b < c → a < b → num a < num b) (fY fB : Nat → Int32) : ∃ o1, rd_ok c o1 ∧ (su_go c num xx yy 6 0 0 0 0 0 (fY, fB, 1400001)).2.2 = nI (rd_M xx yy o1 c) ∧ (∀ i, i < c → (su_go c num xx yy 6 0 0 0 0 0 (fY, fB, 1400001)).2.1 i = num (o1 i)) ∧ ∀ o, rd_ok c o → rd_M xx yy o1 c ≤ rd_M xx yy o c ∧ (rd_M xx yy o c = rd_M xx yy o1 c → su_ahf (fun i => num (o i)) (fun i => num (o1 i)) c 0 = 0) := by
  have h := (rd_go hc hp hnum 6 0 rfl (Nat.zero_le c) (fun k => k) 0 0 0 0 (fY, fB, 1400001) (fun i hi => absurd hi (Nat.not_lt_zero i)) (fun i j hi => absurd hi (Nat.not_lt_zero i)) (fun k hk => ⟨fun _ i hi => absurd hi (Nat.not_lt_zero i), fun _ => su_bit_0 k (by omega)⟩) rfl rfl (fun i hi => absurd hi (Nat.not_lt_zero i))).1
  rcases h with ⟨-, -, h⟩ | ⟨o1, h1, -, h2, h3, h4⟩
  · have hid : rd_ok c (fun k => k) := ⟨fun i hi => hi, fun i j _ _ e => e⟩
    have h5 := h (fun k => k) ⟨hid, fun i hi => absurd hi (Nat.not_lt_zero i)⟩
    have b1 := rd_mb hp (o := fun k => k) (d := c) hid.1
    have b2 := (rd_home hp (o := fun k => k) (d := c) hid.1).2
    have b3 : c * 200000 ≤ 6 * 200000 := Nat.mul_le_mul_right _ hc
    rw [show (1400001 : Int32) = nI 1400001 from rfl] at h5
    have h5 : nI 1400001 ≤ nI (rd_M xx yy (fun k => k) c) := h5
    rw [nI_leI (by decide) (by unfold rd_M; omega)] at h5
    unfold rd_M at h5
    omega
  · exact ⟨o1, h1.1, h2, h3, fun o ho => h4 o ⟨ho, fun i hi => absurd hi (Nat.not_lt_zero i)⟩⟩
end RD
