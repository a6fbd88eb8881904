/-! what stays, at the law's entry -/
theorem ar_p {args : Array Value} {s : State} {ty : FieldType} (h : (Cond.arrayClass ty).before args s = true) (hty : ∀ C, ty ≠ .object C) : ∃ cA : ClassId, ArrOfT s cA ty ∧ va_RA s cA ty := by
  obtain ⟨cA, kA, comp, h1, h2, h3⟩ := Cond.arrayClass_spec h
  refine ⟨cA, fun n z => ⟨fun k h => (by cases h), kA, h2, comp, h3⟩, ?_⟩
  cases ty with
  | object C => exact absurd rfl (hty C)
  | _ => exact h1
theorem ar_o {args : Array Value} {s : State} {C : String} (h : (Cond.arrayOver (.object C)).before args s = true) : ∃ cA : ClassId, ArrOfT s cA (.object C) ∧ va_RA s cA (.object C) := by
  obtain ⟨comp, cA, kA, h1, -, h2, h3, h4⟩ := Cond.arrayOver_spec h
  exact ⟨cA, fun n z => ⟨fun k h => (by cases h), kA, h2, comp, h3⟩, kA, comp, h2, h3, h1, h4⟩
theorem cw_ow : ∀ w ∈ ow_w, w ∈ lw_tbl := by decide +kernel
theorem cw_ao : ∀ C ∈ ao_w, Cond.arrayOver (.object C) ∈ lw_tbl := by decide +kernel
theorem cw_st : ∀ q ∈ st_w, Cond.stringRef cn_C q.1 q.2 ∈ lw_tbl := by decide +kernel
theorem cw_nc : ∀ q ∈ nc_w, Cond.not (.castable q.1 q.2) ∈ flatC (Jvm.Cond.and given_1 narrow_1) := by decide +kernel
theorem cw_sx : ∀ q ∈ st_w, Cond.exactly (.string cn_C q.1) "java/lang/String" ∈ flatC (Jvm.Cond.and given_1 narrow_1) := by decide +kernel
theorem cx_start {args : Array Value} {s : State} (hts : ∀ w ∈ lw_tbl, w.before args s = true) (hgv : (Jvm.Cond.and given_1 narrow_1).before args s = true) : ∃ (D : va_G) (ac : Nat → ClassId) (sa : Nat → Nat), cx_K s.heap.size D ac sa s := by
  have hs := flat_of_before _ hgv
  have hg : ∀ w ∈ gw, w.before args s = true := fun w h => hts w (gw_in w h)
  obtain ⟨c0, i0, k0⟩ := u_known hg gu_C (hg _ gx_C)
  obtain ⟨c1, i1, k1⟩ := u_known hg gu_H (hg _ gx_H)
  obtain ⟨c2, i2, k2⟩ := u_known hg gu_T (hg _ gx_T)
  obtain ⟨c3, i3, k3⟩ := u_known hg gu_O (hg _ gx_O)
  obtain ⟨c4, i4, k4⟩ := u_known hg gu_K (hg _ gx_K)
  obtain ⟨c5, i5, k5⟩ := u_known hg gu_A (hg _ gx_A)
  obtain ⟨c6, i6, k6⟩ := u_known hg gu_M (hg _ gx_M)
  obtain ⟨a0, q0⟩ := ar_p (hg _ gar_int) (fun C h => nomatch h)
  obtain ⟨a1, q1⟩ := ar_p (hg _ gar_long) (fun C h => nomatch h)
  obtain ⟨a2, q2⟩ := ar_p (hg _ gar_boolean) (fun C h => nomatch h)
  obtain ⟨a3, q3⟩ := ar_o (hts _ (cw_ao "HydrantRows$Hydrant" (by decide)))
  obtain ⟨a4, q4⟩ := ar_o (hts _ (cw_ao "HydrantRows$Test" (by decide)))
  obtain ⟨a5, q5⟩ := ar_o (hts _ (cw_ao "HydrantRows$Works" (by decide)))
  have hsa : ∀ k : Nat, ∃ a : Nat, ∀ tx, (k, tx) ∈ st_w → (Term.string cn_C k).eval args s none [] s = some (.ref a) := fun k => by
    by_cases hk : ∃ tx, (k, tx) ∈ st_w
    · obtain ⟨tx, hk⟩ := hk
      obtain ⟨a, c, cA, kA, e1, -⟩ := Cond.exactly_spec (args := args) (first := s) (o := none) (s := s) (idx := []) (t := .string cn_C k) (cls := "java/lang/String") (hs _ (cw_sx _ hk))
      exact ⟨a, fun _ _ => e1⟩
    · exact ⟨0, fun tx h => absurd ⟨tx, h⟩ hk⟩
  obtain ⟨sa, hsa⟩ := Classical.axiomOfChoice hsa
  have hA : ∀ a : Nat, a < s.heap.size → ¬ pm_A s.heap.size a := fun a h => Nat.not_le.mpr h
  refine ⟨(fun k => [c0, c1, c2, c3, c4, c5, c6].getD k c0, fun k => [i0, i1, i2, i3, i4, i5, i6].getD k i0), fun k => [a0, a1, a2, a3, a4, a5].getD k a0, sa, Nat.le_refl _, ⟨?_, ?_⟩, ⟨vx_Zqof (hts _ (by decide +kernel)) (hts _ (by decide +kernel)) (hs _ (by decide +kernel)) hA, vx_Zqof (hts _ (by decide +kernel)) (hts _ (by decide +kernel)) (hs _ (by decide +kernel)) hA⟩, fun w hw => va_Nw.of (ow_tab hw) (hts w (cw_ow w hw)), fun q hq => va_Nc.of (hs _ (cw_nc q hq)), fun q hq => vk_R.of (hts _ (cw_st q hq)) (hsa q.1 q.2 hq), fun C hC => va_AO.of (hts _ (cw_ao C hC))⟩
  · intro k q hq
    match k, hq with
    | 0, hq => cases hq; exact k0
    | 1, hq => cases hq; exact k1
    | 2, hq => cases hq; exact k2
    | 3, hq => cases hq; exact k3
    | 4, hq => cases hq; exact k4
    | 5, hq => cases hq; exact k5
    | 6, hq => cases hq; exact k6
    | k + 7, hq => cases hq
  · intro k q hq
    match k, hq with
    | 0, hq => cases hq; exact q0
    | 1, hq => cases hq; exact q1
    | 2, hq => cases hq; exact q2
    | 3, hq => cases hq; exact q3
    | 4, hq => cases hq; exact q4
    | 5, hq => cases hq; exact q5
    | k + 6, hq => cases hq
