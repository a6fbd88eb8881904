/-! rounds: both sides -/
theorem met_n {mv : Nat → Nat → Int32} {tr : Nat → Nat} : ∀ {c : Nat}, (∀ i, i < c → su_pm (mv 0 (tr i)) (mv 1 (tr i)) = 1) → su_mst mv tr c = (nI (rd_m (mv 0) (mv 1) tr c), (rd_p (mv 0) (mv 1) tr c).1, (rd_p (mv 0) (mv 1) tr c).2) ∧ su_pm (rd_p (mv 0) (mv 1) tr c).1 (rd_p (mv 0) (mv 1) tr c).2 = 1
  | 0, _ => ⟨rfl, show su_pm 0 0 = 1 from by decide⟩
  | c + 1, h => by
    obtain ⟨h1, h2⟩ := met_n (mv := mv) (tr := tr) (c := c) (fun i hi => h i (by omega))
    refine ⟨?_, h c (by omega)⟩
    show ((su_mst mv tr c).1 + su_mh mv (su_mst mv tr c).2.1 (su_mst mv tr c).2.2 (tr c), mv 0 (tr c), mv 1 (tr c)) = (nI (rd_m (mv 0) (mv 1) tr c + su_ds1 (mv 0 (tr c)) (mv 1 (tr c)) (rd_p (mv 0) (mv 1) tr c).1 (rd_p (mv 0) (mv 1) tr c).2), mv 0 (tr c), mv 1 (tr c))
    rw [h1]
    show (nI (rd_m (mv 0) (mv 1) tr c) + (su_sz ((rd_p (mv 0) (mv 1) tr c).1 - mv 0 (tr c)) + su_sz ((rd_p (mv 0) (mv 1) tr c).2 - mv 1 (tr c))), mv 0 (tr c), mv 1 (tr c)) = _
    rw [(su_hose_n (h c (by omega)) h2).2.1, nI_add]
theorem met_M {mv : Nat → Nat → Int32} {tr : Nat → Nat} {c : Nat} (h : ∀ i, i < c → su_pm (mv 0 (tr i)) (mv 1 (tr i)) = 1) : su_met mv tr c = nI (rd_M (mv 0) (mv 1) tr c) := by
  obtain ⟨h1, h2⟩ := met_n h
  have hb := pm_b h2
  have e0 : (0 : Int32).toInt = 0 := by decide
  unfold su_met rd_M
  rw [h1]
  show nI (rd_m (mv 0) (mv 1) tr c) + su_sz (rd_p (mv 0) (mv 1) tr c).1 + su_sz (rd_p (mv 0) (mv 1) tr c).2 = _
  rw [Int32.add_assoc, ← nI_add]
  have e1 : su_sz (rd_p (mv 0) (mv 1) tr c).1 + su_sz (rd_p (mv 0) (mv 1) tr c).2 = nI (su_ds1 (rd_p (mv 0) (mv 1) tr c).1 (rd_p (mv 0) (mv 1) tr c).2 0 0) := by
    have a1 := su_sz_ti (v := (rd_p (mv 0) (mv 1) tr c).1) (by omega)
    have a2 := su_sz_ti (v := (rd_p (mv 0) (mv 1) tr c).2) (by omega)
    have hle : su_ds1 (rd_p (mv 0) (mv 1) tr c).1 (rd_p (mv 0) (mv 1) tr c).2 0 0 ≤ 100000 := by
      unfold su_ds1
      rw [e0]
      omega
    refine su_i32 ?_ (nI_toInt (by omega))
    rw [su_ti_add (by omega) (by omega), a1, a2]
    unfold su_ds1
    rw [e0]
    omega
  rw [e1]
theorem rd_comp {xx yy : Nat → Int32} {mv : Nat → Nat → Int32} {nn o : Nat → Nat} : ∀ {c : Nat}, (∀ i, i < c → xx (o i) = mv 0 (nn (o i)) ∧ yy (o i) = mv 1 (nn (o i))) → rd_m xx yy o c = rd_m (mv 0) (mv 1) (fun i => nn (o i)) c ∧ rd_p xx yy o c = rd_p (mv 0) (mv 1) (fun i => nn (o i)) c
  | 0, _ => ⟨rfl, rfl⟩
  | c + 1, h => by
    obtain ⟨h1, h2⟩ := rd_comp (xx := xx) (yy := yy) (mv := mv) (nn := nn) (o := o) (c := c) (fun i hi => h i (by omega))
    obtain ⟨h3, h4⟩ := h c (by omega)
    refine ⟨?_, ?_⟩
    · show rd_m xx yy o c + su_ds1 (xx (o c)) (yy (o c)) (rd_p xx yy o c).1 (rd_p xx yy o c).2 = rd_m (mv 0) (mv 1) (fun i => nn (o i)) c + su_ds1 (mv 0 (nn (o c))) (mv 1 (nn (o c))) (rd_p (mv 0) (mv 1) (fun i => nn (o i)) c).1 (rd_p (mv 0) (mv 1) (fun i => nn (o i)) c).2
      rw [h1, h2, h3, h4]
    · show (xx (o c), yy (o c)) = (mv 0 (nn (o c)), mv 1 (nn (o c)))
      rw [h3, h4]
theorem rd_Mcg {xx yy : Nat → Int32} {o o1 : Nat → Nat} {c : Nat} (h : ∀ i, i < c → o i = o1 i) : rd_M xx yy o c = rd_M xx yy o1 c := by
  obtain ⟨h1, h2⟩ := rd_cg (xx := xx) (yy := yy) h
  unfold rd_M
  rw [h1, h2]
/-- an order as a number -/
def rd_cd (o : Nat → Nat) : Nat → Nat
  | 0 => 0
  | i + 1 => rd_cd o i * 6 + o i
theorem rd_cd_div {o : Nat → Nat} {i : Nat} : ∀ {k : Nat}, (∀ j, j < i + k → o j < 6) → rd_cd o (i + k) / 6 ^ k = rd_cd o i
  | 0, _ => by rw [Nat.pow_zero, Nat.div_one]; rfl
  | k + 1, h => by
    have ih := rd_cd_div (o := o) (i := i) (k := k) (fun j hj => h j (by omega))
    have h1 := h (i + k) (by omega)
    show (rd_cd o (i + k) * 6 + o (i + k)) / 6 ^ (k + 1) = _
    rw [Nat.pow_succ, Nat.mul_comm (6 ^ k) 6, ← Nat.div_div_eq_div_mul, show (rd_cd o (i + k) * 6 + o (i + k)) / 6 = rd_cd o (i + k) from by omega, ih]
theorem rd_cd_lt {o : Nat → Nat} : ∀ {c : Nat}, (∀ j, j < c → o j < 6) → rd_cd o c < 6 ^ c
  | 0, _ => show 0 < 1 from by decide
  | c + 1, h => by
    have ih := rd_cd_lt (o := o) (c := c) (fun j hj => h j (by omega))
    have h1 := h c (by omega)
    show rd_cd o c * 6 + o c < 6 ^ (c + 1)
    rw [Nat.pow_succ]
    omega
theorem rd_cd_dg {o : Nat → Nat} {c i : Nat} (h : ∀ j, j < c → o j < 6) (hi : i < c) : su_dg c (rd_cd o c) i = o i := by
  have h1 := h i hi
  have h2 := rd_cd_div (o := o) (i := i + 1) (k := c - 1 - i) (fun j hj => h j (by omega))
  rw [show i + 1 + (c - 1 - i) = c from by omega] at h2
  unfold su_dg
  rw [h2]
  show (rd_cd o i * 6 + o i) % 6 = o i
  omega
theorem nodup_len : ∀ {L1 L2 : List Nat}, L1.Nodup → (∀ x, x ∈ L1 → x ∈ L2) → L1.length ≤ L2.length
  | [], _, _, _ => Nat.zero_le _
  | x :: xs, L2, h, hs => by
    rw [List.nodup_cons] at h
    have h1 := hs x List.mem_cons_self
    have h2 := nodup_len (L1 := xs) (L2 := L2.erase x) h.2 (fun y hy => (List.mem_erase_of_ne (fun e => by rw [e] at hy; exact h.1 hy)).mpr (hs y (List.mem_cons_of_mem _ hy)))
    rw [List.length_erase_of_mem h1] at h2
    have h3 := List.length_pos_of_mem h1
    rw [List.length_cons]
    omega
/-- told numbers that are told once -/
theorem su_sn_inj {h : Int64} : ∀ {t s : Nat}, su_sn h t = some s → ∀ i j, i < j → j < t → bn h i ≠ bn h j
  | 0, _, _, i, j, _, hj => absurd hj (Nat.not_lt_zero j)
  | t + 1, s, hs, i, j, hij, hj => by
    simp only [su_sn] at hs
    rcases hq : su_sn h t with _ | s0
    · rw [hq] at hs; cases hs
    · rw [hq] at hs
      by_cases hb : s0.testBit (bn h t) = true
      · simp only [hb, if_true] at hs; cases hs
      · rcases Nat.lt_or_eq_of_le (Nat.le_of_lt_succ hj) with h1 | h1
        · exact su_sn_inj hq i j hij h1
        · intro e
          rw [h1] at e
          exact hb ((su_sn_bit hq _).mpr ⟨i, by omega, e⟩)
theorem su_sn_none {h : Int64} : ∀ {t : Nat}, su_sn h t = none → ∃ i j, i < j ∧ j < t ∧ bn h i = bn h j
  | 0, hs => by cases hs
  | t + 1, hs => by
    simp only [su_sn] at hs
    rcases hq : su_sn h t with _ | s0
    · obtain ⟨i, j, h1, h2, h3⟩ := su_sn_none hq
      exact ⟨i, j, h1, by omega, h3⟩
    · rw [hq] at hs
      by_cases hb : s0.testBit (bn h t) = true
      · obtain ⟨i, hi, e⟩ := (su_sn_bit hq _).mp hb
        exact ⟨i, t, hi, by omega, e⟩
      · simp only [hb] at hs; cases hs
theorem su_ro1_z {h : Int64} {i : Nat} {o : Int32} : ∀ {k : Nat}, (su_ro1 h i o k = 0 ∨ su_ro1 h i o k = o) ∧ (¬ su_ro1 h i o k = 0 → ∀ j, j < k → bn h j ≠ bn h i) ∧ ((∀ j, j < k → bn h j ≠ bn h i) → su_ro1 h i o k = o)
  | 0 => ⟨.inr rfl, fun _ j hj => absurd hj (Nat.not_lt_zero j), fun _ => rfl⟩
  | k + 1 => by
    obtain ⟨h1, h2, h3⟩ := su_ro1_z (h := h) (i := i) (o := o) (k := k)
    have hl : ∀ a, bn h a < 2 ^ 31 := fun a => Nat.lt_trans (bn_lt h a) (by decide)
    simp only [su_ro1]
    by_cases g : nI (bn h k) = nI (bn h i)
    · rw [if_pos g]
      refine ⟨.inl rfl, fun h4 => absurd rfl h4, fun h4 => ?_⟩
      exact absurd ((nI_eq (hl k) (hl i)).mp g) (h4 k (by omega))
    · rw [if_neg g]
      refine ⟨h1, fun h4 j hj => ?_, fun h4 => h3 (fun j hj => h4 j (by omega))⟩
      rcases Nat.lt_or_eq_of_le (Nat.le_of_lt_succ hj) with h5 | h5
      · exact h2 h4 j h5
      · rw [h5]; exact fun e => g (by rw [e])
theorem su_ro_z {h : Int64} : ∀ {T : Nat}, (su_ro h T = 0 ∨ su_ro h T = 1) ∧ (su_ro h T = 1 ↔ ∀ i j, i < j → j < T → bn h i ≠ bn h j)
  | 0 => ⟨.inr rfl, fun _ i j _ hj => absurd hj (Nat.not_lt_zero j), fun _ => rfl⟩
  | T + 1 => by
    obtain ⟨h1, h2⟩ := su_ro_z (h := h) (T := T)
    obtain ⟨g1, g2, g3⟩ := su_ro1_z (h := h) (i := T) (o := su_ro h T) (k := T)
    simp only [su_ro]
    refine ⟨?_, fun h3 i j hij hj => ?_, fun h3 => ?_⟩
    · rcases g1 with g1 | g1
      · exact .inl g1
      · rw [g1]; exact h1
    · have hz : ¬ su_ro1 h T (su_ro h T) T = 0 := by rw [h3]; decide
      rcases Nat.lt_or_eq_of_le (Nat.le_of_lt_succ hj) with h4 | h4
      · rcases g1 with g1 | g1
        · exact absurd g1 hz
        · rw [g1] at h3; exact h2.mp h3 i j hij h4
      · rw [h4]; exact g2 hz i (by omega)
    · rw [g3 (fun j hj => h3 j T hj (by omega))]
      exact h2.mpr (fun i j hij hj => h3 i j hij (by omega))
theorem su_rk_z {h : Int64} {n : Nat} : ∀ {T : Nat}, (su_rk h n T = 0 ∨ su_rk h n T = 1) ∧ ((∀ i, i < T → ¬ su_in (nI (bn h i)) 0 (nI n - 1) = 0) → su_rk h n T = 1)
  | 0 => ⟨.inr rfl, fun _ => rfl⟩
  | T + 1 => by
    obtain ⟨h1, h2⟩ := su_rk_z (h := h) (n := n) (T := T)
    simp only [su_rk]
    by_cases g : su_in (nI (bn h T)) 0 (nI n - 1) = 0
    · rw [if_pos g]; exact ⟨.inl rfl, fun h3 => absurd g (h3 T (by omega))⟩
    · rw [if_neg g]; exact ⟨h1, fun h3 => h2 (fun i hi => h3 i (by omega))⟩
theorem su_ss_ro {h : Int64} {c : Nat} (hc : c ≤ 6) : (su_ss h c = none → su_ro h c = 0) ∧ (¬ su_ss h c = none → su_ro h c = 1) := by
  rw [su_ss_sn h c hc]
  rcases hq : su_sn h c with _ | s
  · refine ⟨fun _ => ?_, fun h1 => absurd rfl h1⟩
    obtain ⟨i, j, h1, h2, h3⟩ := su_sn_none hq
    exact su_ro_z.1.resolve_right (fun h4 => su_ro_z.2.mp h4 i j h1 h2 h3)
  · exact ⟨fun h1 => (nomatch h1), fun _ => su_ro_z.2.mpr (su_sn_inj hq)⟩
section SM
variable {n t : Nat} {al so : Int32} {fH : Nat → Option Nat} {hv : Nat → Nat → Int32} {aw : Nat → Nat} {ct : Nat → Option Nat} {mv : Nat → Nat → Int32} {hq tq : Nat → Nat}
theorem su_sl_Q (hH : iv_H n t fH hv aw ct mv hq tq) {s : Nat} (hs : s < 2 ^ 64) : ∀ m, m ≤ 40 → su_sl fH (lN s) (hv 0) m = ((List.range m).filter (fun k => decide (k < n) && s.testBit k)).map hq
  | 0, _ => rfl
  | m + 1, hm => by
    have ih := su_sl_Q hH hs m (by omega)
    rw [List.range_succ, List.filter_append, List.map_append, ← ih]
    by_cases hmn : m < n
    · have e1 := (hH.2.2 m hmn).1
      simp only [su_sl, hq_at hH hmn, e1]
      by_cases hb : s.testBit m = true
      · have h1 : ¬ su_tb (lN s) (nI m) = 0 := fun h => by rw [su_tb_bit hs (by omega), hb] at h; cases h
        rw [if_neg h1]
        simp [hmn, hb]
      · rw [Bool.not_eq_true] at hb
        rw [if_pos ((su_tb_bit hs (by omega)).mpr hb)]
        simp [hb]
    · simp only [su_sl, hH.1 m, if_neg hmn]
      simp [hmn]
theorem rd_same (hH : iv_H n t fH hv aw ct mv hq tq) (hB : iv_B n t al so mv) {p1 : Int64} {c : Nat} (hc : c ≤ 6) (hkn : ∀ i, i < c → bn p1 i < n) {sv : Int64} (hss : su_ss p1 c = some sv) (fY fB : Nat → Int32) {g : Nat → Int32} {v0 : Int32} (hrb : su_rb (su_rM mv p1 c) (su_rS p1 c) c (6 ^ c) g v0) : (su_sl fH sv (hv 0) 40).length = c ∧ (su_go (su_sl fH sv (hv 0) 40).length (fun i => hv 0 ((su_sl fH sv (hv 0) 40).getD i 0)) (fun i => hv 1 ((su_sl fH sv (hv 0) 40).getD i 0)) (fun i => hv 2 ((su_sl fH sv (hv 0) 40).getD i 0)) 6 0 0 0 0 0 (fY, fB, 1400001)).2.2 = v0 ∧ ∀ i, i < c → (su_go (su_sl fH sv (hv 0) 40).length (fun i => hv 0 ((su_sl fH sv (hv 0) 40).getD i 0)) (fun i => hv 1 ((su_sl fH sv (hv 0) 40).getD i 0)) (fun i => hv 2 ((su_sl fH sv (hv 0) 40).getD i 0)) 6 0 0 0 0 0 (fY, fB, 1400001)).2.1 i = g i := by
  have hn40 := hB.1.1
  rw [su_ss_sn p1 c hc] at hss
  rcases hsn : su_sn p1 c with _ | s
  · rw [hsn] at hss; cases hss
  rw [hsn] at hss
  have esv : lN s = sv := Option.some.inj hss
  have hs := su_sn_lt hsn
  have hbit := su_sn_bit hsn
  have hdist := su_sn_inj hsn
  have hinj : ∀ i j, i < c → j < c → bn p1 i = bn p1 j → i = j := fun i j hi hj e => by
    rcases Nat.lt_trichotomy i j with h | h | h
    · exact absurd e (hdist i j h hj)
    · exact h
    · exact absurd e.symm (hdist j i h hi)
  rw [← esv, su_sl_Q hH hs 40 (Nat.le_refl 40)]
  obtain ⟨Q, eQ⟩ : ∃ Q : List Nat, Q = (List.range 40).filter (fun k => decide (k < n) && s.testBit k) := ⟨_, rfl⟩
  rw [← eQ]
  have hmem : ∀ k, k ∈ Q ↔ k < n ∧ ∃ i, i < c ∧ bn p1 i = k := fun k => by
    rw [eQ, List.mem_filter, List.mem_range, Bool.and_eq_true, decide_eq_true_eq, hbit]
    exact ⟨fun h => h.2, fun h => ⟨by omega, h⟩⟩
  have hsort : Q.Pairwise (· < ·) := by rw [eQ]; exact List.Pairwise.filter _ List.pairwise_lt_range
  have hnd : Q.Nodup := hsort.imp (fun h => Nat.ne_of_lt h)
  have hmapnd : ((List.range c).map (bn p1)).Nodup := by
    refine List.pairwise_map.mpr (List.Pairwise.imp_of_mem (fun {a b} ha hb hab => ?_) (List.pairwise_lt_range (n := c)))
    rw [List.mem_range] at ha hb
    exact hdist a b hab hb
  have hlen : Q.length = c := by
    have h1 := nodup_len hnd (L2 := (List.range c).map (bn p1)) (fun x hx => by
      obtain ⟨-, i, hi, e⟩ := (hmem x).mp hx
      exact List.mem_map.mpr ⟨i, List.mem_range.mpr hi, e⟩)
    have h2 := nodup_len hmapnd (L2 := Q) (fun x hx => by
      obtain ⟨i, hi, e⟩ := List.mem_map.mp hx
      rw [List.mem_range] at hi
      exact (hmem x).mpr ⟨by rw [← e]; exact hkn i hi, i, hi, e⟩)
    rw [List.length_map, List.length_range] at h1 h2
    omega
  obtain ⟨nn, enn⟩ : ∃ nn : Nat → Nat, nn = fun i => Q.getD i 0 := ⟨_, rfl⟩
  have hget : ∀ i (h : i < c), nn i = Q[i]'(by omega) := fun i h => by rw [enn]; show Q.getD i 0 = _; rw [List.getD_eq_getElem?_getD, List.getElem?_eq_getElem (by omega)]; rfl
  have hgetq : ∀ i, i < c → (Q.map hq).getD i 0 = hq (nn i) := fun i h => by
    rw [hget i h, List.getD_eq_getElem?_getD, List.getElem?_eq_getElem (by rw [List.length_map]; omega), List.getElem_map]; rfl
  have hnm : ∀ i, i < c → nn i < n ∧ ∃ k, k < c ∧ bn p1 k = nn i := fun i h => by
    rw [hget i h]
    exact (hmem _).mp (List.getElem_mem _)
  have hlt : ∀ a b, a < c → b < c → a < b → nn a < nn b := fun a b ha hb hab => by
    rw [hget a ha, hget b hb]
    exact List.pairwise_iff_getElem.mp hsort a b (by omega) (by omega) hab
  have hnninj : ∀ a b, a < c → b < c → nn a = nn b → a = b := fun a b ha hb e => by
    rcases Nat.lt_trichotomy a b with h | h | h
    · have := hlt a b ha hb h; omega
    · exact h
    · have := hlt b a hb ha h; omega
  have hpi : ∀ k, ∃ i, k < c → i < c ∧ nn i = bn p1 k := fun k => by
    by_cases hk : k < c
    · obtain ⟨i, hi, e⟩ := List.getElem_of_mem ((hmem (bn p1 k)).mpr ⟨hkn k hk, k, hk, rfl⟩)
      exact ⟨i, fun _ => ⟨by omega, by rw [hget i (by omega)]; exact e⟩⟩
    · exact ⟨0, fun h => absurd h hk⟩
  have hka : ∀ i, ∃ k, i < c → k < c ∧ bn p1 k = nn i := fun i => by
    by_cases hi : i < c
    · obtain ⟨k, hk, e⟩ := (hnm i hi).2
      exact ⟨k, fun _ => ⟨hk, e⟩⟩
    · exact ⟨0, fun h => absurd h hi⟩
  obtain ⟨pi, hpi⟩ := Classical.axiomOfChoice hpi
  obtain ⟨ka, hka⟩ := Classical.axiomOfChoice hka
  have hval : ∀ i, i < c → hv 0 ((Q.map hq).getD i 0) = nI (nn i) ∧ hv 1 ((Q.map hq).getD i 0) = mv 0 (nn i) ∧ hv 2 ((Q.map hq).getD i 0) = mv 1 (nn i) := fun i h => by
    rw [hgetq i h]
    obtain ⟨t0, t1, t2, -⟩ := hH.2.2 (nn i) (hnm i h).1
    exact ⟨t0, t1, t2⟩
  have hpl : ∀ k, k < n → su_pm (mv 0 k) (mv 1 k) = 1 := fun k hk => (hB.2.2.2.1 k hk).1
  rw [List.length_map, hlen]
  refine ⟨rfl, ?_⟩
  obtain ⟨o1, k1, k2, k3, k4⟩ := rd_all (c := c) (num := fun i => hv 0 ((Q.map hq).getD i 0)) (xx := fun i => hv 1 ((Q.map hq).getD i 0)) (yy := fun i => hv 2 ((Q.map hq).getD i 0)) hc
    (fun i hi => by
      show su_pm (hv 1 ((Q.map hq).getD i 0)) (hv 2 ((Q.map hq).getD i 0)) = 1
      rw [(hval i hi).2.1, (hval i hi).2.2]; exact hpl _ (hnm i hi).1)
    (fun a b ha hb hab => by
      show hv 0 ((Q.map hq).getD a 0) < hv 0 ((Q.map hq).getD b 0)
      rw [(hval a ha).1, (hval b hb).1]
      have h1 := (hnm b hb).1
      exact nI_lt (hlt a b ha hb hab) (by omega)) fY fB
  generalize su_go c (fun i => hv 0 ((Q.map hq).getD i 0)) (fun i => hv 1 ((Q.map hq).getD i 0)) (fun i => hv 2 ((Q.map hq).getD i 0)) 6 0 0 0 0 0 (fY, fB, 1400001) = G at k2 k3
  have hMeq : ∀ o, rd_ok c o → rd_M (fun i => hv 1 ((Q.map hq).getD i 0)) (fun i => hv 2 ((Q.map hq).getD i 0)) o c = rd_M (mv 0) (mv 1) (fun i => nn (o i)) c := fun o ho => by
    obtain ⟨a1, a2⟩ := rd_comp (xx := fun i => hv 1 ((Q.map hq).getD i 0)) (yy := fun i => hv 2 ((Q.map hq).getD i 0)) (mv := mv) (nn := nn) (o := o) (c := c) (fun i hi => ⟨(hval (o i) (ho.1 i hi)).2.1, (hval (o i) (ho.1 i hi)).2.2⟩)
    unfold rd_M
    rw [a1, a2]
  have hrM : ∀ cd, su_og c cd → su_rM mv p1 c cd = nI (rd_M (mv 0) (mv 1) (fun i => bn p1 (su_dg c cd i)) c) ∧ rd_M (mv 0) (mv 1) (fun i => bn p1 (su_dg c cd i)) c < 2 ^ 31 := fun cd ho => by
    have h1 : ∀ i, i < c → su_pm (mv 0 (bn p1 (su_dg c cd i))) (mv 1 (bn p1 (su_dg c cd i))) = 1 := fun i hi => hpl _ (hkn _ (ho.1 i hi))
    refine ⟨met_M h1, ?_⟩
    have b1 := rd_mb (c := n) hpl (o := fun i => bn p1 (su_dg c cd i)) (d := c) (fun i hi => hkn _ (ho.1 i hi))
    have b2 := (rd_home (c := n) hpl (o := fun i => bn p1 (su_dg c cd i)) (d := c) (fun i hi => hkn _ (ho.1 i hi))).2
    have b3 : c * 200000 ≤ 6 * 200000 := Nat.mul_le_mul_right _ hc
    unfold rd_M
    omega
  have hcode : ∀ o, rd_ok c o → su_og c (rd_cd o c) ∧ (∀ i, i < c → su_dg c (rd_cd o c) i = o i) ∧ rd_cd o c < 6 ^ c := fun o ho => by
    have h6 : ∀ j, j < c → o j < 6 := fun j hj => by have := ho.1 j hj; omega
    have hd : ∀ i, i < c → su_dg c (rd_cd o c) i = o i := fun i hi => rd_cd_dg h6 hi
    exact ⟨⟨fun i hi => by rw [hd i hi]; exact ho.1 i hi, fun i j hi hj e => by rw [hd i hi, hd j hj] at e; exact ho.2 i j hi hj e⟩, hd, rd_cd_lt h6⟩
  rcases hrb with ⟨-, hno⟩ | ⟨cd0, m1, m2, m3, m4, m5⟩
  · have hid : rd_ok c (fun k => k) := ⟨fun i hi => hi, fun i j _ _ e => e⟩
    exact absurd (hcode _ hid).1 (hno _ (hcode _ hid).2.2)
  have ok2 : rd_ok c (fun i => pi (su_dg c cd0 i)) := ⟨fun i hi => (hpi _ (m2.1 i hi)).1, fun i j hi hj e => by
    have e : pi (su_dg c cd0 i) = pi (su_dg c cd0 j) := e
    have h1 := (hpi _ (m2.1 i hi)).2
    rw [e, (hpi _ (m2.1 j hj)).2] at h1
    exact m2.2 i j hi hj (hinj _ _ (m2.1 i hi) (m2.1 j hj) h1.symm)⟩
  have ok3 : rd_ok c (fun i => ka (o1 i)) := ⟨fun i hi => (hka _ (k1.1 i hi)).1, fun i j hi hj e => by
    have e : ka (o1 i) = ka (o1 j) := e
    have h1 := (hka _ (k1.1 i hi)).2
    rw [e, (hka _ (k1.1 j hj)).2] at h1
    exact k1.2 i j hi hj (hnninj _ _ (k1.1 i hi) (k1.1 j hj) h1.symm)⟩
  obtain ⟨c1, c2, c3⟩ := hcode _ ok3
  have htr0 : ∀ i, i < c → nn (pi (su_dg c cd0 i)) = bn p1 (su_dg c cd0 i) := fun i hi => (hpi _ (m2.1 i hi)).2
  have htr1 : ∀ i, i < c → bn p1 (su_dg c (rd_cd (fun i => ka (o1 i)) c) i) = nn (o1 i) := fun i hi => by
    rw [c2 i hi]; exact (hka _ (k1.1 i hi)).2
  have e0 : rd_M (mv 0) (mv 1) (fun i => nn (pi (su_dg c cd0 i))) c = rd_M (mv 0) (mv 1) (fun i => bn p1 (su_dg c cd0 i)) c := rd_Mcg htr0
  have e1 : rd_M (mv 0) (mv 1) (fun i => bn p1 (su_dg c (rd_cd (fun i => ka (o1 i)) c) i)) c = rd_M (mv 0) (mv 1) (fun i => nn (o1 i)) c := rd_Mcg htr1
  have q1 := k4 _ ok2
  rw [hMeq o1 k1, hMeq _ ok2, e0] at q1
  have q2 := m5 _ c3 c1
  obtain ⟨r1, r2⟩ := hrM _ c1
  obtain ⟨r3, r4⟩ := hrM _ m2
  rw [r1, m3, r3, e1] at q2
  rw [e1] at r2
  rw [nI_ltI r2 r4, nI_eq r2 r4] at q2
  have hEq : rd_M (mv 0) (mv 1) (fun i => nn (o1 i)) c = rd_M (mv 0) (mv 1) (fun i => bn p1 (su_dg c cd0 i)) c := by omega
  refine ⟨by rw [k2, m3, r3, hMeq o1 k1, hEq], fun i hi => ?_⟩
  have z1 := q1.2 hEq.symm
  have z2 := q2.2 hEq
  have z1' : su_ahf g (fun i => nI (nn (o1 i))) c 0 = 0 := by
    rw [← z1]
    refine su_ahf_cg (fun k _ hk => ⟨?_, ?_⟩)
    · show g k = hv 0 ((Q.map hq).getD (pi (su_dg c cd0 k)) 0)
      rw [(hval _ (ok2.1 k (by omega))).1, m4 k (by omega), htr0 k (by omega)]; rfl
    · show nI (nn (o1 k)) = hv 0 ((Q.map hq).getD (o1 k) 0)
      rw [(hval _ (k1.1 k (by omega))).1]
  have z2' : su_ahf (fun i => nI (nn (o1 i))) g c 0 = 0 := by
    rw [← z2]
    refine su_ahf_cg (fun k _ hk => ⟨?_, rfl⟩)
    show nI (nn (o1 k)) = nI (bn p1 (su_dg c (rd_cd (fun i => ka (o1 i)) c) k))
    rw [htr1 k (by omega)]
  have z3 := su_ahf_anti z1' z2' i (Nat.zero_le i) (by omega)
  rw [k3 i hi, z3]
  show hv 0 ((Q.map hq).getD (o1 i) 0) = nI (nn (o1 i))
  rw [(hval _ (k1.1 i hi)).1]
end SM
