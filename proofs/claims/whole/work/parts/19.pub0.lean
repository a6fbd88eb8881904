/-- the first that fails tells what is thrown -/
def su_xs : List (Prop × String) → String → Prop
  | [], _ => False
  | (p, e) :: r, E => (¬ p ∧ E = e) ∨ (p ∧ su_xs r E)
def su_al : List (Prop × String) → Prop
  | [] => True
  | (p, _) :: r => p ∧ su_al r
theorem su_kn_at {p : Int32} {fH : Nat → Option Nat} {q : Nat} (h : su_kn p fH = some q) : fH p.toNatClampNeg = some q := by
  unfold su_kn at h
  by_cases h1 : p < 0
  · rw [if_pos h1] at h; cases h
  · rw [if_neg h1] at h
    by_cases h2 : (40 : Int32) ≤ p
    · rw [if_pos h2] at h; cases h
    · rw [if_neg h2] at h; exact h
theorem su_ne {α : Type} {o : Option α} {q : α} (h : o = some q) : ¬ o = none := fun h1 => by rw [h1] at h; cases h
theorem su_sw5 (x : Int32) : x = 0 ∨ x = 1 ∨ x = 2 ∨ x = 3 ∨ x = 4 ∨ (x.toInt < 0 ∨ 4 < x.toInt) := by
  by_cases h : x.toInt < 0 ∨ 4 < x.toInt
  · exact Or.inr (Or.inr (Or.inr (Or.inr (Or.inr h))))
  · have h1 : x.toInt = 0 ∨ x.toInt = 1 ∨ x.toInt = 2 ∨ x.toInt = 3 ∨ x.toInt = 4 := by omega
    rcases h1 with h1 | h1 | h1 | h1 | h1
    · exact Or.inl (Int32.toInt_inj.mp h1)
    · exact Or.inr (Or.inl (Int32.toInt_inj.mp h1))
    · exact Or.inr (Or.inr (Or.inl (Int32.toInt_inj.mp h1)))
    · exact Or.inr (Or.inr (Or.inr (Or.inl (Int32.toInt_inj.mp h1))))
    · exact Or.inr (Or.inr (Or.inr (Or.inr (Or.inl (Int32.toInt_inj.mp h1)))))
theorem su_sw6 (x : Int32) : x = 0 ∨ x = 1 ∨ x = 2 ∨ x = 3 ∨ x = 4 ∨ x = 5 ∨ (x.toInt < 0 ∨ 5 < x.toInt) := by
  by_cases h : x.toInt < 0 ∨ 5 < x.toInt
  · exact Or.inr (Or.inr (Or.inr (Or.inr (Or.inr (Or.inr h)))))
  · have h1 : x.toInt = 0 ∨ x.toInt = 1 ∨ x.toInt = 2 ∨ x.toInt = 3 ∨ x.toInt = 4 ∨ x.toInt = 5 := by omega
    rcases h1 with h1 | h1 | h1 | h1 | h1 | h1
    · exact Or.inl (Int32.toInt_inj.mp h1)
    · exact Or.inr (Or.inl (Int32.toInt_inj.mp h1))
    · exact Or.inr (Or.inr (Or.inl (Int32.toInt_inj.mp h1)))
    · exact Or.inr (Or.inr (Or.inr (Or.inl (Int32.toInt_inj.mp h1))))
    · exact Or.inr (Or.inr (Or.inr (Or.inr (Or.inl (Int32.toInt_inj.mp h1)))))
    · exact Or.inr (Or.inr (Or.inr (Or.inr (Or.inr (Or.inl (Int32.toInt_inj.mp h1))))))
def su_gc : Nat → Int32 → Int32 → Int32
  | 0, a, _ => a
  | n + 1, a, b => if b = 0 then a else su_gc n b (a - a / b * b)

set_option maxHeartbeats 4000000 in
set_option maxRecDepth 100000 in
theorem c_C_commonDivisor (l : Launch) (z : Nat) (D : va_G) (ac : Nat → ClassId) (sa : Nat → Nat) (P : pm_T) (p0 p1 : Int32)  : cx_M l yy_C_commonDivisor bb_C_commonDivisor 6 (some .int) ({ frames := 0, cells := 0, slots := 0, locals := 0 } : Room) z D ac sa P [.int p0, .int p1] (fun v P' => v = some (.int (su_gc 64 p0 p1)) ∧ P' = P) := by
  refine cx_ofM (by decide) (Nat.le_of_ble_eq_true rfl) (fun p e s m below meth c ls hx hb hr hml hg hown hlocks hin hK hw hl => ?_)
  have hl : lv_has ls 6 [(0, .int p0), (1, .int p1)] := hl
  have hown : s.vm.findClass cn_C = some m.cls := hown
  have lp : ∀ (n k : Nat), k + n = 64 → ∀ (a b : Int32) (H : Heap) (locs : List Loc) (ls : Array Slot), su_gc n a b = su_gc 64 p0 p1 → pm_W z D cl_w P s.heap H locs → lv_has ls 6 [(4, .int (nI k)), (3, .int b), (2, .int a), (0, .int p0), (1, .int p1)] → W p l e ({ frames := 0, cells := 0, slots := 0, locals := 0 } : Room) s m ([.int p0, .int p1] : List Value).toArray below meth c H locs 0 0 (MQ below (cx_Q z D (fun v P' => v = some (.int (su_gc 64 p0 p1)) ∧ P' = P)) ([.int p0, .int p1] : List Value).toArray s ({ frames := 0, cells := 0, slots := 0, locals := 0 } : Room).cells ({ frames := 0, cells := 0, slots := 0, locals := 0 } : Room).slots (pm_A z)) (F0 m 7 ls []) := by
    intro n
    induction n with
    | zero =>
      intro k hk a b H locs ls hg9 hw hl
      have hk : k = 64 := by omega
      subst hk
      refine lv_iload hx hb dd_C_commonDivisor_7 (lv_at hl 0 rfl) ?_
      refine lv_bipush (v := 64) hx hb dd_C_commonDivisor_9 (by decide) ?_
      refine lv_icmp_ge (tgt := 34) hx hb dd_C_commonDivisor_11 (by decide) (fun c1 => ?_) (fun c1 => absurd (nI_le (Nat.le_refl 64) (by decide)) c1)
      refine lv_iload_n hx hb dd_C_commonDivisor_34 rfl (lv_at hl 2 rfl) ?_
      refine cx_iret (v := a) hx hb hr rfl hlocks hw dd_C_commonDivisor_35 (by decide) (by decide) ?_
      exact ⟨by rw [← hg9]; rfl, rfl⟩
    | succ n ih =>
      intro k hk a b H locs ls hg9 hw hl
      have hlt : k < 64 := by omega
      refine lv_iload hx hb dd_C_commonDivisor_7 (lv_at hl 0 rfl) ?_
      refine lv_bipush (v := 64) hx hb dd_C_commonDivisor_9 (by decide) ?_
      refine lv_icmp_ge (tgt := 34) hx hb dd_C_commonDivisor_11 (by decide) (fun c2 => absurd c2 (nI_ge hlt (by decide))) (fun c2 => ?_)
      refine lv_iload_n hx hb dd_C_commonDivisor_14 rfl (lv_at hl 1 rfl) ?_
      refine lv_if_eq (tgt := 34) hx hb dd_C_commonDivisor_15 (by decide) (fun c3 => ?_) (fun c3 => ?_)
      · skip
        refine lv_iload_n hx hb dd_C_commonDivisor_34 rfl (lv_at hl 2 rfl) ?_
        refine cx_iret (v := a) hx hb hr rfl hlocks hw dd_C_commonDivisor_35 (by decide) (by decide) ?_
        exact ⟨by rw [← hg9, su_gc, if_pos c3], rfl⟩
      · skip
        refine lv_iload_n hx hb dd_C_commonDivisor_18 rfl (lv_at hl 2 rfl) ?_
        refine lv_iload_n hx hb dd_C_commonDivisor_19 rfl (lv_at hl 1 rfl) ?_
        refine lv_irem hx hb dd_C_commonDivisor_20 c3 ?_
        refine lv_topi (fun x4 ex4 => ?_)
        refine lv_istore (lv' := [(5, .int x4), (4, .int (nI k)), (3, .int b), (2, .int a), (0, .int p0), (1, .int p1)]) hx hb dd_C_commonDivisor_21 hl (by decide) rfl (fun ls hl => ?_)
        refine lv_iload_n hx hb dd_C_commonDivisor_23 rfl (lv_at hl 2 rfl) ?_
        refine lv_istore_n (lv' := [(2, .int b), (5, .int x4), (4, .int (nI k)), (3, .int b), (0, .int p0), (1, .int p1)]) hx hb dd_C_commonDivisor_24 rfl hl (by decide) rfl (fun ls hl => ?_)
        refine lv_iload hx hb dd_C_commonDivisor_25 (lv_at hl 1 rfl) ?_
        refine lv_istore_n (lv' := [(3, .int x4), (2, .int b), (5, .int x4), (4, .int (nI k)), (0, .int p0), (1, .int p1)]) hx hb dd_C_commonDivisor_27 rfl hl (by decide) rfl (fun ls hl => ?_)
        obtain ⟨x5, ex5⟩ : ∃ y : Int32, y = (nI k) + 1 := ⟨_, rfl⟩
        refine lv_iinc (v := x5) (lv' := [(4, .int x5), (3, .int x4), (2, .int b), (5, .int x4), (0, .int p0), (1, .int p1)]) hx hb dd_C_commonDivisor_28 hl (k := 3) rfl (by rw [ex5]; rfl) (by decide) rfl (fun ls hl => ?_)
        refine lv_goto (tgt := 7) hx hb dd_C_commonDivisor_31 (by decide) ?_
        have hi : x5 = nI (k + 1) := by rw [ex5]; exact nI_1 k
        rw [hi] at hl
        exact ih (k + 1) (by omega) b x4 H _ ls (by rw [← hg9, ex4]; exact (if_neg c3).symm) hw (lv_sub hl [0, 1, 2, 4, 5] rfl)
  refine lv_iload_n hx hb dd_C_commonDivisor_0 rfl (lv_at hl 0 rfl) ?_
  refine lv_istore_n (lv' := [(2, .int p0), (0, .int p0), (1, .int p1)]) hx hb dd_C_commonDivisor_1 rfl hl (by decide) rfl (fun ls hl => ?_)
  refine lv_iload_n hx hb dd_C_commonDivisor_2 rfl (lv_at hl 2 rfl) ?_
  refine lv_istore_n (lv' := [(3, .int p1), (2, .int p0), (0, .int p0), (1, .int p1)]) hx hb dd_C_commonDivisor_3 rfl hl (by decide) rfl (fun ls hl => ?_)
  refine lv_iconst (v := 0) hx hb dd_C_commonDivisor_4 (by decide) ?_
  refine lv_istore (lv' := [(4, .int (0 : Int32)), (3, .int p1), (2, .int p0), (0, .int p0), (1, .int p1)]) hx hb dd_C_commonDivisor_5 hl (by decide) rfl (fun ls hl => ?_)
  exact lp 64 0 (by decide) p0 p1 _ _ ls rfl hw (lv_sub hl [0, 1, 2, 3, 4] rfl)
