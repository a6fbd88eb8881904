/-! the world as a map from addresses to cells -/
abbrev pm_T : Type := Nat → Option va_E
def pm_up (P : pm_T) (a : Nat) (e : va_E) : pm_T := fun q => if q = a then some e else P q
theorem pm_s {P : pm_T} {a : Nat} {e : va_E} : pm_up P a e a = some e := if_pos rfl
theorem pm_n {P : pm_T} {a b : Nat} {e : va_E} (h : b ≠ a) : pm_up P a e b = P b := if_neg h
theorem pm_ne {P : pm_T} {a b : Nat} {x y : va_E} (h1 : P a = some x) (h2 : P b = some y) (h : x ≠ y) : a ≠ b := by
  intro q
  subst q
  exact h (Option.some.inj (h1.symm.trans h2))
theorem pm_nx {P : pm_T} {a q : Nat} {x : va_E} (h1 : P a = some x) (h2 : P q = none) : a ≠ q := by
  intro h
  subst h
  rw [h2] at h1
  cases h1
theorem pm_uu {P : pm_T} {a : Nat} {x y : va_E} : pm_up (pm_up P a x) a y = pm_up P a y := by
  funext q
  by_cases h : q = a
  · rw [h, pm_s, pm_s]
  · rw [pm_n h, pm_n h, pm_n h]
theorem pm_uc {P : pm_T} {a b : Nat} {x y : va_E} (h : a ≠ b) : pm_up (pm_up P a x) b y = pm_up (pm_up P b y) a x := by
  funext q
  by_cases h1 : q = a
  · have h2 : q ≠ b := by rw [h1]; exact h
    rw [pm_n h2, h1, pm_s, pm_s]
  · by_cases h2 : q = b
    · rw [pm_n h1, h2, pm_s, pm_s]
    · rw [pm_n h1, pm_n h2, pm_n h2, pm_n h1]
theorem pm_id {P : pm_T} {a : Nat} {x : va_E} (h : P a = some x) : pm_up P a x = P := by
  funext q
  by_cases h1 : q = a
  · rw [h1, pm_s, h]
  · rw [pm_n h1]
def pm_A (z : Nat) : Nat → Prop := fun q => z ≤ q
def pm_H (z : Nat) (D : va_G) (cl : List vw_C) (P : pm_T) (H : Heap) : Prop := ∀ (a : Nat) (e : va_E), P a = some e → va_at D cl (a, e) H ∧ z ≤ a
def pm_W (z : Nat) (D : va_G) (cl : List vw_C) (P : pm_T) (H0 H : Heap) (locs : List Loc) : Prop := z ≤ H0.size ∧ pm_H z D cl P H ∧ va_S (pm_A z) H0 H locs
def pm_l (P : pm_T) (n : Nat) : va_W := (List.range n).filterMap (fun a => (P a).map (fun e => (a, e)))
theorem pm_l_mem {P : pm_T} {n a : Nat} {e : va_E} : (a, e) ∈ pm_l P n ↔ a < n ∧ P a = some e := by
  unfold pm_l
  rw [List.mem_filterMap]
  constructor
  · rintro ⟨b, hb, h⟩
    rw [Option.map_eq_some_iff] at h
    obtain ⟨x, hx, hp⟩ := h
    cases hp
    exact ⟨List.mem_range.mp hb, hx⟩
  · rintro ⟨h1, h2⟩
    exact ⟨a, List.mem_range.mpr h1, by rw [h2]; rfl⟩
theorem pm_l_inj (P : pm_T) (n i j : Nat) (p q : Nat × va_E) (h1 : (pm_l P n)[i]? = some p) (h2 : (pm_l P n)[j]? = some q) (h : p.1 = q.1) : i = j := by
  have hp : List.Pairwise (fun (p q : Nat × va_E) => p.1 < q.1) (pm_l P n) := by
    unfold pm_l
    refine List.Pairwise.filterMap _ ?_ List.pairwise_lt_range
    intro a a' hlt b hb b' hb'
    have g1 := Option.map_eq_some_iff.mp hb
    have g2 := Option.map_eq_some_iff.mp hb'
    obtain ⟨x, -, rfl⟩ := g1
    obtain ⟨y, -, rfl⟩ := g2
    exact hlt
  obtain ⟨i1, e1⟩ := List.getElem?_eq_some_iff.mp h1
  obtain ⟨j1, e2⟩ := List.getElem?_eq_some_iff.mp h2
  rcases Nat.lt_trichotomy i j with g | g | g
  · have h3 := List.pairwise_iff_getElem.mp hp i j i1 j1 g
    rw [e1, e2] at h3
    omega
  · exact g
  · have h3 := List.pairwise_iff_getElem.mp hp j i j1 i1 g
    rw [e1, e2] at h3
    omega
theorem pm_W.conv {z : Nat} {D : va_G} {cl : List vw_C} {P : pm_T} {H0 H : Heap} {locs : List Loc} (hw : pm_W z D cl P H0 H locs) : ∃ ws : va_W, va_P D cl ws H ∧ va_D (pm_A z) ws ∧ (∀ a e, P a = some e → ∃ k : Nat, ws[k]? = some (a, e)) ∧
    (∀ (k a : Nat) (e e' : va_E) (H1 : Heap) (locs1 : List Loc), ws[k]? = some (a, e) → va_P D cl (ws.set k (a, e')) H1 → va_S (pm_A z) H0 H1 locs1 → pm_W z D cl (pm_up P a e') H0 H1 locs1) ∧
    (∀ (q : Nat) (e' : va_E) (H1 : Heap) (locs1 : List Loc), va_P D cl (ws ++ [(q, e')]) H1 → va_D (pm_A z) (ws ++ [(q, e')]) → va_S (pm_A z) H0 H1 locs1 → P q = none ∧ pm_W z D cl (pm_up P q e') H0 H1 locs1) := by
  obtain ⟨hz, hH, hS⟩ := hw
  have hin : ∀ a e, P a = some e → ∃ k : Nat, (pm_l P H.size)[k]? = some (a, e) := fun a e h =>
    List.getElem?_of_mem (pm_l_mem.mpr ⟨va_at.lt (hH a e h).1, h⟩)
  refine ⟨pm_l P H.size, ?_, ?_, hin, ?_, ?_⟩
  · intro k q hk
    obtain ⟨a, e⟩ := q
    exact (hH a e (pm_l_mem.mp (List.mem_of_getElem? hk)).2).1
  · refine ⟨pm_l_inj P H.size, fun k q hk => ?_⟩
    obtain ⟨a, e⟩ := q
    exact (hH a e (pm_l_mem.mp (List.mem_of_getElem? hk)).2).2
  · intro k a e e' H1 locs1 hk hP hS1
    have hlt : k < (pm_l P H.size).length := (List.getElem?_eq_some_iff.mp hk).1
    refine ⟨hz, fun b f hb => ?_, hS1⟩
    by_cases hba : b = a
    · subst hba
      rw [pm_s] at hb
      cases hb
      exact ⟨hP k _ (by rw [List.getElem?_set_self hlt]), (hH b e (pm_l_mem.mp (List.mem_of_getElem? hk)).2).2⟩
    · rw [pm_n hba] at hb
      obtain ⟨j, hj⟩ := hin b f hb
      have hjk : k ≠ j := by
        intro h
        subst h
        rw [hk] at hj
        cases hj
        exact hba rfl
      exact ⟨hP j _ (by rw [List.getElem?_set_ne hjk]; exact hj), (hH b f hb).2⟩
  · intro q e' H1 locs1 hP hD hS1
    have hlen : (pm_l P H.size ++ [(q, e')])[(pm_l P H.size).length]? = some (q, e') := by
      rw [List.getElem?_append_right (Nat.le_refl _), Nat.sub_self]
      rfl
    have hl : ∀ (j : Nat) (x : Nat × va_E), (pm_l P H.size)[j]? = some x → (pm_l P H.size ++ [(q, e')])[j]? = some x ∧ j < (pm_l P H.size).length := fun j x hj => by
      have h1 : j < (pm_l P H.size).length := (List.getElem?_eq_some_iff.mp hj).1
      exact ⟨by rw [List.getElem?_append_left h1]; exact hj, h1⟩
    have hno : P q = none := by
      cases hq : P q with
      | none => rfl
      | some x =>
        obtain ⟨j, hj⟩ := hin q x hq
        obtain ⟨g1, g2⟩ := hl j _ hj
        have := hD.1 j _ _ _ g1 hlen rfl
        omega
    refine ⟨hno, hz, fun b f hb => ?_, hS1⟩
    by_cases hba : b = q
    · subst hba
      rw [pm_s] at hb
      cases hb
      exact ⟨hP _ _ hlen, hD.2 _ _ hlen⟩
    · rw [pm_n hba] at hb
      obtain ⟨j, hj⟩ := hin b f hb
      exact ⟨hP j _ (hl j _ hj).1, (hH b f hb).2⟩
section PMR
variable {p : Program} {l : Launch} {e : Env} {R : Room} {s : State} {m : MethodId} {args : Array Value} {below : List Frame} {meth : Method} {c : Code} {H : Heap} {locs : List Loc} {cells slots : Nat} {Q : State → Prop}
variable {cc : ByteArray} {pc : Nat} {ls : Array Slot} {rest : List Value} {D : va_G} {cl : List vw_C} {z : Nat} {P : pm_T} {a : Nat} {tys : List (ClassId × FieldType)} {H0 : Heap}
theorem pm_get (hexec : p.tables.exec = Jvm.exec) (hb : c.code = cc) {own ref C : String} {T : u_T} {N ci index : Nat} {Ts : List Cond} (hts : ∀ w ∈ Ts, w.before args s = true) (hin : ∀ w ∈ u_ws C T N, w ∈ Ts) (hown : s.vm.findClass own = some m.cls) (hK : va_K D cl tys s) (hw : pm_W z D cl P H0 H locs) {fs : List Value} (he : P a = some (.inr (ci, fs))) (hc : cl[ci]? = some (C, T, N)) (k : Nat) (hk : k < N) (hlink : (Cond.fieldLink own index ref (T k).2.1 (T k).2.2.1).before args s = true) (hsame : ∀ x, s.fieldFound? (T k).1 (T k).2.1 (T k).2.2.1 = some x → s.fieldFound? ref (T k).2.1 (T k).2.2.1 = some x) {v : Value} (hv : fs[k]? = some v) (hdg : decode cc pc = .ok (.getfield index, 3))
    (kk : W p l e R s m args below meth c H locs cells slots Q (F0 m (pc + 3) ls (v :: rest))) : W p l e R s m args below meth c H locs cells slots Q (F0 m pc ls (.ref a :: rest)) := by
  obtain ⟨ws, hP, hD, hf, -, -⟩ := hw.conv
  obtain ⟨q0, hq⟩ := hf _ _ he
  exact va_get hexec hb hts hin hown hK hP q0 hq hc k hk hlink hsame hv hdg kk
theorem pm_put (hexec : p.tables.exec = Jvm.exec) (hb : c.code = cc) {own ref C : String} {T : u_T} {N ci index : Nat} {Ts : List Cond} (hts : ∀ w ∈ Ts, w.before args s = true) (hin : ∀ w ∈ u_ws C T N, w ∈ Ts) (ty0 : Nat → FieldType) (hty : ∀ k, k < N → parseFieldDescriptor (T k).2.2.1 = some (ty0 k)) (hnm : ∀ a, a < N → ∀ b, b < N → a ≠ b → (T a).2.1 ≠ (T b).2.1) (hown : s.vm.findClass own = some m.cls) (hK : va_K D cl tys s) (hw : pm_W z D cl P H0 H locs) {fs : List Value} (he : P a = some (.inr (ci, fs))) (hc : cl[ci]? = some (C, T, N)) (k : Nat) (hk : k < N) (hlink : (Cond.fieldLink own index ref (T k).2.1 (T k).2.2.1).before args s = true) (hsame : ∀ x, s.fieldFound? (T k).1 (T k).2.1 (T k).2.2.1 = some x → s.fieldFound? ref (T k).2.1 (T k).2.2.1 = some x) (hfin : (T k).2.2.2 = false) {ty : FieldType} {v : Value} (hd : parseFieldDescriptor (T k).2.2.1 = some ty) (hn : narrow ty v = v) (hfit : fits ty v = true) (hl : k < fs.length)
    (hdg : decode cc pc = .ok (.putfield index, 3)) (kk : ∀ (H1 : Heap) (locs1 : List Loc), pm_W z D cl (pm_up P a (.inr (ci, fs.set k v))) H0 H1 locs1 → W p l e R s m args below meth c H1 locs1 cells slots Q (F0 m (pc + 3) ls rest)) : W p l e R s m args below meth c H locs cells slots Q (F0 m pc ls (v :: .ref a :: rest)) := by
  obtain ⟨ws, hP, hD, hf, hs, -⟩ := hw.conv
  obtain ⟨q0, hq⟩ := hf _ _ he
  exact va_put hexec hb hts hin ty0 hty hnm hown hK hP hD hw.2.2 q0 hq hc k hk hlink hsame hfin hd hn hfit hl hdg (fun H1 locs1 hP1 _ hS1 => kk H1 locs1 (hs q0 a _ _ H1 locs1 hq hP1 hS1))
theorem pm_putF (hexec : p.tables.exec = Jvm.exec) (hb : c.code = cc) {own ref C : String} {T : u_T} {N ci index : Nat} {Ts : List Cond} (hts : ∀ w ∈ Ts, w.before args s = true) (hin : ∀ w ∈ u_ws C T N, w ∈ Ts) (ty0 : Nat → FieldType) (hty : ∀ k, k < N → parseFieldDescriptor (T k).2.2.1 = some (ty0 k)) (hnm : ∀ a, a < N → ∀ b, b < N → a ≠ b → (T a).2.1 ≠ (T b).2.1) (hown : s.vm.findClass own = some m.cls) (hK : va_K D cl tys s) (hw : pm_W z D cl P H0 H locs) {fs : List Value} (he : P a = some (.inr (ci, fs))) (hc : cl[ci]? = some (C, T, N)) (k : Nat) (hk : k < N) (hlink : (Cond.fieldLink own index ref (T k).2.1 (T k).2.2.1).before args s = true) (hsame : ∀ x, s.fieldFound? (T k).1 (T k).2.1 (T k).2.2.1 = some x → s.fieldFound? ref (T k).2.1 (T k).2.2.1 = some x) (hfin : (T k).2.2.2 = true) (hin2 : meth.name = "<init>") (hdecl : (T k).1 = own) {ty : FieldType} {v : Value} (hd : parseFieldDescriptor (T k).2.2.1 = some ty) (hn : narrow ty v = v) (hfit : fits ty v = true) (hl : k < fs.length)
    (hdg : decode cc pc = .ok (.putfield index, 3)) (kk : ∀ (H1 : Heap) (locs1 : List Loc), pm_W z D cl (pm_up P a (.inr (ci, fs.set k v))) H0 H1 locs1 → W p l e R s m args below meth c H1 locs1 cells slots Q (F0 m (pc + 3) ls rest)) : W p l e R s m args below meth c H locs cells slots Q (F0 m pc ls (v :: .ref a :: rest)) := by
  obtain ⟨ws, hP, hD, hf, hs, -⟩ := hw.conv
  obtain ⟨q0, hq⟩ := hf _ _ he
  exact va_putF hexec hb hts hin ty0 hty hnm hown hK hP hD hw.2.2 q0 hq hc k hk hlink hsame hfin hin2 hdecl hd hn hfit hl hdg (fun H1 locs1 hP1 _ hS1 => kk H1 locs1 (hs q0 a _ _ H1 locs1 hq hP1 hS1))
theorem pm_iald (hexec : p.tables.exec = Jvm.exec) (hb : c.code = cc) (hK : va_K D cl tys s) (hw : pm_W z D cl P H0 H locs) (t0 : Nat) {cA : ClassId} {n : Nat} {f : Nat → Int32} (he : P a = some (.inl (cA, n, .inl f))) (ht : tys[t0]? = some (cA, .int)) {i : Int32} (hin : vp_in i n) (hdg : decode cc pc = .ok (.iaload, 1))
    (kk : W p l e R s m args below meth c H locs cells slots Q (F0 m (pc + 1) ls (.int (f i.toNatClampNeg) :: rest))) : W p l e R s m args below meth c H locs cells slots Q (F0 m pc ls (.int i :: .ref a :: rest)) := by
  obtain ⟨ws, hP, hD, hf, -, -⟩ := hw.conv
  obtain ⟨q0, hq⟩ := hf _ _ he
  exact va_iald hexec hb hK hP q0 t0 hq ht hin hdg kk
theorem pm_iast (hexec : p.tables.exec = Jvm.exec) (hb : c.code = cc) (hK : va_K D cl tys s) (hw : pm_W z D cl P H0 H locs) (t0 : Nat) {cA : ClassId} {n : Nat} {f : Nat → Int32} (he : P a = some (.inl (cA, n, .inl f))) (ht : tys[t0]? = some (cA, .int)) {i : Int32} {x : Int32} (hin : vp_in i n) (hdg : decode cc pc = .ok (.iastore, 1))
    (kk : ∀ (H1 : Heap) (locs1 : List Loc), pm_W z D cl (pm_up P a (.inl (cA, n, .inl (upd f i.toNatClampNeg x)))) H0 H1 locs1 → W p l e R s m args below meth c H1 locs1 cells slots Q (F0 m (pc + 1) ls rest)) : W p l e R s m args below meth c H locs cells slots Q (F0 m pc ls (.int x :: .int i :: .ref a :: rest)) := by
  obtain ⟨ws, hP, hD, hf, hs, -⟩ := hw.conv
  obtain ⟨q0, hq⟩ := hf _ _ he
  exact va_iast hexec hb hK hP hD hw.2.2 q0 t0 hq ht hin hdg (fun H1 locs1 hP1 _ hS1 => kk H1 locs1 (hs q0 a _ _ H1 locs1 hq hP1 hS1))
theorem pm_lald (hexec : p.tables.exec = Jvm.exec) (hb : c.code = cc) (hK : va_K D cl tys s) (hw : pm_W z D cl P H0 H locs) (t0 : Nat) {cA : ClassId} {n : Nat} {f : Nat → Int64} (he : P a = some (.inl (cA, n, .inr (.inl f)))) (ht : tys[t0]? = some (cA, .long)) {i : Int32} (hin : vp_in i n) (hdg : decode cc pc = .ok (.laload, 1))
    (kk : W p l e R s m args below meth c H locs cells slots Q (F0 m (pc + 1) ls (.long (f i.toNatClampNeg) :: rest))) : W p l e R s m args below meth c H locs cells slots Q (F0 m pc ls (.int i :: .ref a :: rest)) := by
  obtain ⟨ws, hP, hD, hf, -, -⟩ := hw.conv
  obtain ⟨q0, hq⟩ := hf _ _ he
  exact va_lald hexec hb hK hP q0 t0 hq ht hin hdg kk
theorem pm_last (hexec : p.tables.exec = Jvm.exec) (hb : c.code = cc) (hK : va_K D cl tys s) (hw : pm_W z D cl P H0 H locs) (t0 : Nat) {cA : ClassId} {n : Nat} {f : Nat → Int64} (he : P a = some (.inl (cA, n, .inr (.inl f)))) (ht : tys[t0]? = some (cA, .long)) {i : Int32} {x : Int64} (hin : vp_in i n) (hdg : decode cc pc = .ok (.lastore, 1))
    (kk : ∀ (H1 : Heap) (locs1 : List Loc), pm_W z D cl (pm_up P a (.inl (cA, n, .inr (.inl (vp_updL f i.toNatClampNeg x))))) H0 H1 locs1 → W p l e R s m args below meth c H1 locs1 cells slots Q (F0 m (pc + 1) ls rest)) : W p l e R s m args below meth c H locs cells slots Q (F0 m pc ls (.long x :: .int i :: .ref a :: rest)) := by
  obtain ⟨ws, hP, hD, hf, hs, -⟩ := hw.conv
  obtain ⟨q0, hq⟩ := hf _ _ he
  exact va_last hexec hb hK hP hD hw.2.2 q0 t0 hq ht hin hdg (fun H1 locs1 hP1 _ hS1 => kk H1 locs1 (hs q0 a _ _ H1 locs1 hq hP1 hS1))
theorem pm_aald (hexec : p.tables.exec = Jvm.exec) (hb : c.code = cc) (hK : va_K D cl tys s) (hw : pm_W z D cl P H0 H locs) (t0 : Nat) {cA : ClassId} {C : String} {n : Nat} {f : Nat → Option Nat} (he : P a = some (.inl (cA, n, .inr (.inr (.inr (.inr f)))))) (ht : tys[t0]? = some (cA, .object C)) {i : Int32} (hin : vp_in i n) (hdg : decode cc pc = .ok (.aaload, 1))
    (kk : W p l e R s m args below meth c H locs cells slots Q (F0 m (pc + 1) ls (va_rf (f i.toNatClampNeg) :: rest))) : W p l e R s m args below meth c H locs cells slots Q (F0 m pc ls (.int i :: .ref a :: rest)) := by
  obtain ⟨ws, hP, hD, hf, -, -⟩ := hw.conv
  obtain ⟨q0, hq⟩ := hf _ _ he
  exact va_aldq hexec hb hK hP q0 t0 hq ht hin hdg kk
theorem pm_aast (hexec : p.tables.exec = Jvm.exec) (hb : c.code = cc) (hK : va_K D cl tys s) (hw : pm_W z D cl P H0 H locs) (t0 ci : Nat) {cA : ClassId} {r : vw_C} {n v : Nat} {vs : List Value} {f : Nat → Option Nat} (he : P a = some (.inl (cA, n, .inr (.inr (.inr (.inr f)))))) (ht : tys[t0]? = some (cA, .object r.1)) (hv : P v = some (.inr (ci, vs))) (hc : cl[ci]? = some r) {i : Int32} (hin : vp_in i n) (hdg : decode cc pc = .ok (.aastore, 1))
    (kk : ∀ (H1 : Heap) (locs1 : List Loc), pm_W z D cl (pm_up P a (.inl (cA, n, .inr (.inr (.inr (.inr (va_up f i.toNatClampNeg (some v)))))))) H0 H1 locs1 → W p l e R s m args below meth c H1 locs1 cells slots Q (F0 m (pc + 1) ls rest)) : W p l e R s m args below meth c H locs cells slots Q (F0 m pc ls (.ref v :: .int i :: .ref a :: rest)) := by
  obtain ⟨ws, hP, hD, hf, hs, -⟩ := hw.conv
  obtain ⟨q0, hq⟩ := hf _ _ he
  obtain ⟨qk, hk⟩ := hf _ _ hv
  exact va_astq hexec hb hK hP hD hw.2.2 q0 t0 qk ci hq ht hk hc hin hdg (fun H1 locs1 hP1 _ hS1 => kk H1 locs1 (hs q0 a _ _ H1 locs1 hq hP1 hS1))
theorem pm_aastN (hexec : p.tables.exec = Jvm.exec) (hb : c.code = cc) (hK : va_K D cl tys s) (hw : pm_W z D cl P H0 H locs) (t0 : Nat) {cA : ClassId} {C : String} {n : Nat} {f : Nat → Option Nat} (he : P a = some (.inl (cA, n, .inr (.inr (.inr (.inr f)))))) (ht : tys[t0]? = some (cA, .object C)) {i : Int32} (hin : vp_in i n) (hdg : decode cc pc = .ok (.aastore, 1))
    (kk : ∀ (H1 : Heap) (locs1 : List Loc), pm_W z D cl (pm_up P a (.inl (cA, n, .inr (.inr (.inr (.inr (va_up f i.toNatClampNeg none))))))) H0 H1 locs1 → W p l e R s m args below meth c H1 locs1 cells slots Q (F0 m (pc + 1) ls rest)) : W p l e R s m args below meth c H locs cells slots Q (F0 m pc ls (.null :: .int i :: .ref a :: rest)) := by
  obtain ⟨ws, hP, hD, hf, hs, -⟩ := hw.conv
  obtain ⟨q0, hq⟩ := hf _ _ he
  exact va_astqN hexec hb hK hP hD hw.2.2 q0 t0 hq ht hin hdg (fun H1 locs1 hP1 _ hS1 => kk H1 locs1 (hs q0 a _ _ H1 locs1 hq hP1 hS1))
theorem pm_alen (hexec : p.tables.exec = Jvm.exec) (hb : c.code = cc) (hK : va_K D cl tys s) (hw : pm_W z D cl P H0 H locs) (t0 : Nat) {cA : ClassId} {x : vp_A} (he : P a = some (.inl (cA, x))) {ty : FieldType} (ht : tys[t0]? = some (cA, ty)) {v : Int32} (hv : Int32.ofNat x.1 = v) (hdg : decode cc pc = .ok (.arraylength, 1))
    (kk : W p l e R s m args below meth c H locs cells slots Q (F0 m (pc + 1) ls (.int v :: rest))) : W p l e R s m args below meth c H locs cells slots Q (F0 m pc ls (.ref a :: rest)) := by
  obtain ⟨ws, hP, hD, hf, -, -⟩ := hw.conv
  obtain ⟨q0, hq⟩ := hf _ _ he
  exact va_alen hexec hb hK hP q0 t0 hq ht hv hdg kk
theorem pm_new (hexec : p.tables.exec = Jvm.exec) (hb : c.code = cc) {own C : String} {T : u_T} {N ci index : Nat} {Ts : List Cond} (hts : ∀ w ∈ Ts, w.before args s = true) (hin : ∀ w ∈ u_ws C T N, w ∈ Ts) (ty : Nat → FieldType) (hty : ∀ k, k < N → parseFieldDescriptor (T k).2.2.1 = some (ty k)) (hown : s.vm.findClass own = some m.cls) (hcl : (Cond.classLink own index C).before args s = true) (hinst : (Cond.instantiable C N).before args s = true) (hini : (Cond.initialized C).before args s = true)
    (hK : va_K D cl tys s) (hw : pm_W z D cl P H0 H locs) (hc : cl[ci]? = some (C, T, N)) {fs : List Value} (hfs : ∀ j, j < N → defaultValue (ty j) = vp_V fs j) (hcells : cells + 1 ≤ R.cells) (hslots : slots + N ≤ R.slots) (hdg : decode cc pc = .ok (.new index, 3))
    (kk : ∀ (q : Nat) (H1 : Heap), P q = none → pm_W z D cl (pm_up P q (.inr (ci, fs))) H0 H1 locs →
      W p l e R s m args below meth c H1 locs (cells + 1) (slots + N) Q (F0 m (pc + 3) ls (.ref q :: rest))) : W p l e R s m args below meth c H locs cells slots Q (F0 m pc ls rest) := by
  obtain ⟨ws, hP, hD, -, -, hn⟩ := hw.conv
  exact va_new hexec hb hts hin ty hty hown hcl hinst hini hK hP hD hw.2.2 (fun q h => Nat.le_trans hw.1 h) hc hfs hcells hslots hdg (fun q H1 hP1 hD1 hS1 => kk q H1 (hn q _ H1 locs hP1 hD1 hS1).1 (hn q _ H1 locs hP1 hD1 hS1).2)
theorem pm_cls {U : State} {cA cB : ClassId} {ty : FieldType} (h1 : va_RA U cA ty) (h2 : va_RA U cB ty) : cA = cB := by
  cases ty with
  | object C =>
    obtain ⟨_, _, _, _, _, g1⟩ := h1
    obtain ⟨_, _, _, _, _, g2⟩ := h2
    exact Option.some.inj (g1.symm.trans g2)
  | _ => exact Option.some.inj (h1.symm.trans h2)
theorem pm_newa (hexec : p.tables.exec = Jvm.exec) (hb : c.code = cc) {atype : ArrayType} (harr : (Cond.arrayClass (newarray.typeOf atype)).before args s = true) {ty : FieldType} (hty : newarray.typeOf atype = ty) (hK : va_K D cl tys s) (hw : pm_W z D cl P H0 H locs) (t0 : Nat) {cA : ClassId} (ht : tys[t0]? = some (cA, ty))
    {n : Int32} {N' : Nat} {a0 : vp_A} (ha : ∀ cA : ClassId, vp_cell cA a0 = arrV cA N' (fun _ => defaultValue ty)) (hn : ¬ n < 0) (hN : n.toNatClampNeg = N') (hbytes : N' * componentBytes ty ≤ 536870912) (hcells : cells + 1 ≤ R.cells) (hslots : slots + N' ≤ R.slots) (hdg : decode cc pc = .ok (.newarray atype, 2))
    (kk : ∀ (q : Nat) (H1 : Heap), P q = none → pm_W z D cl (pm_up P q (.inl (cA, a0))) H0 H1 locs →
      W p l e R s m args below meth c H1 locs (cells + 1) (slots + N') Q (F0 m (pc + 2) ls (.ref q :: rest))) : W p l e R s m args below meth c H locs cells slots Q (F0 m pc ls (.int n :: rest)) := by
  obtain ⟨ws, hP, hD, -, -, hnw⟩ := hw.conv
  refine va_newa hexec hb harr hty hK hP hD hw.2.2 (fun q h => Nat.le_trans hw.1 h) ha hn hN hbytes hcells hslots hdg (fun q cB H1 hK1 hP1 hD1 hS1 => ?_)
  have h1 := (hK1.2 tys.length (cB, ty) (by rw [List.getElem?_append_right (Nat.le_refl _), Nat.sub_self]; rfl)).2
  have h2 := (hK.2 t0 _ ht).2
  have h3 : cB = cA := pm_cls h1 h2
  subst h3
  exact kk q H1 (hnw q _ H1 locs hP1 hD1 hS1).1 (hnw q _ H1 locs hP1 hD1 hS1).2
theorem pm_newq (hexec : p.tables.exec = Jvm.exec) (hb : c.code = cc) {own C : String} {index : Nat} (hown : s.vm.findClass own = some m.cls) (hclink : (Cond.classLink own index C).before args s = true) (hover : va_AO C s) (hK : va_K D cl tys s) (hw : pm_W z D cl P H0 H locs) (t0 : Nat) {cA : ClassId} (ht : tys[t0]? = some (cA, .object C))
    {n : Int32} {N' : Nat} (hn : ¬ n < 0) (hN : n.toNatClampNeg = N') (hbytes : N' * 4 ≤ 536870912) (hcells : cells + 1 ≤ R.cells) (hslots : slots + N' ≤ R.slots) (hdg : decode cc pc = .ok (.anewarray index, 3))
    (kk : ∀ (q : Nat) (H1 : Heap), P q = none → pm_W z D cl (pm_up P q (.inl (cA, N', .inr (.inr (.inr (.inr (fun _ => none))))))) H0 H1 locs →
      W p l e R s m args below meth c H1 locs (cells + 1) (slots + N') Q (F0 m (pc + 3) ls (.ref q :: rest))) : W p l e R s m args below meth c H locs cells slots Q (F0 m pc ls (.int n :: rest)) := by
  obtain ⟨ws, hP, hD, -, -, hnw⟩ := hw.conv
  refine va_newq hexec hb hown hclink hover hK hP hD hw.2.2 (fun q h => Nat.le_trans hw.1 h) hn hN hbytes hcells hslots hdg (fun q cB H1 hK1 hP1 hD1 hS1 => ?_)
  have h1 := (hK1.2 tys.length (cB, .object C) (by rw [List.getElem?_append_right (Nat.le_refl _), Nat.sub_self]; rfl)).2
  have h2 := (hK.2 t0 _ ht).2
  have h3 : cB = cA := pm_cls h1 h2
  subst h3
  exact kk q H1 (hnw q _ H1 locs hP1 hD1 hS1).1 (hnw q _ H1 locs hP1 hD1 hS1).2
end PMR
