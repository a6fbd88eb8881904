abbrev at_y (ac : Nat → ClassId) : List (ClassId × FieldType) := [(ac 0, .int), (ac 1, .long), (ac 2, .boolean), (ac 3, .object "HydrantRows$Hydrant"), (ac 4, .object "HydrantRows$Test"), (ac 5, .object "HydrantRows$Works")]
def ow_w : List Cond := [(Cond.methodLinkNest "HydrantRows" (27 : Nat) ({ cls := "HydrantRows$Ranking", name := "<init>", desc := "()V" } : MethodName) "HydrantRows"), (Cond.methodLinkNest "HydrantRows" (34 : Nat) ({ cls := "HydrantRows$Walk", name := "<init>", desc := "()V" } : MethodName) "HydrantRows"), (Cond.castable "java/lang/IllegalArgumentException" "java/lang/IllegalArgumentException"), (Cond.declares ({ cls := "java/lang/RuntimeException", name := "<init>", desc := "()V" } : MethodName)), (Cond.declares ({ cls := "java/lang/RuntimeException", name := "<init>", desc := "(Ljava/lang/String;)V" } : MethodName)), (Cond.declares ({ cls := "java/lang/Exception", name := "<init>", desc := "()V" } : MethodName)), (Cond.declares ({ cls := "java/lang/Exception", name := "<init>", desc := "(Ljava/lang/String;)V" } : MethodName)), (Cond.declares ({ cls := "java/lang/Throwable", name := "<init>", desc := "()V" } : MethodName)), (Cond.declares ({ cls := "java/lang/Throwable", name := "<init>", desc := "(Ljava/lang/String;)V" } : MethodName)), (Cond.castable "java/lang/IndexOutOfBoundsException" "java/lang/IndexOutOfBoundsException"), (Cond.castable "java/lang/UnsupportedOperationException" "java/lang/UnsupportedOperationException"), (Cond.castable "java/lang/IllegalStateException" "java/lang/IllegalStateException"), (Cond.castable "java/lang/ArithmeticException" "java/lang/ArithmeticException"), (Cond.methodLinkNest "HydrantRows$Hydrant" (69 : Nat) ({ cls := "HydrantRows", name := "hoseLength", desc := "(IIII)I" } : MethodName) "HydrantRows"), (Cond.methodLinkNest "HydrantRows$Walk" (36 : Nat) ({ cls := "HydrantRows", name := "hoseLength", desc := "(IIII)I" } : MethodName) "HydrantRows")]
def st_w : List (Nat × String) := [(272, "no such main"), (56, "no such kind"), (276, "no such place"), (67, "no room for one more hydrant"), (283, "no such flow"), (255, "no such hydrant"), (279, "no such day"), (281, "no such pressure"), (88, "more is left than at rest"), (91, "no room for one more test"), (100, "no such what"), (261, "it has no test"), (269, "the flow can't be told"), (134, "no such defect"), (140, "the second day is below the first"), (146, "a day of these works is one of others"), (151, "no room for more works"), (153, "no such month"), (158, "it is no other water"), (285, "the place in the row is below 0"), (186, "the two hydrants are one"), (195, "no such hose"), (205, "no such number of hydrants"), (292, "a hydrant is told twice"), (223, "no such number of days"), (231, "no such test")]
def nc_w : List (String × String) := [("java/lang/IllegalArgumentException", "java/lang/IndexOutOfBoundsException"), ("java/lang/IllegalArgumentException", "java/lang/IllegalStateException"), ("java/lang/IllegalArgumentException", "java/lang/UnsupportedOperationException"), ("java/lang/IllegalArgumentException", "java/lang/ArithmeticException"), ("java/lang/IndexOutOfBoundsException", "java/lang/IllegalArgumentException"), ("java/lang/IndexOutOfBoundsException", "java/lang/IllegalStateException"), ("java/lang/IndexOutOfBoundsException", "java/lang/UnsupportedOperationException"), ("java/lang/IndexOutOfBoundsException", "java/lang/ArithmeticException"), ("java/lang/IllegalStateException", "java/lang/IllegalArgumentException"), ("java/lang/IllegalStateException", "java/lang/IndexOutOfBoundsException"), ("java/lang/IllegalStateException", "java/lang/UnsupportedOperationException"), ("java/lang/IllegalStateException", "java/lang/ArithmeticException"), ("java/lang/UnsupportedOperationException", "java/lang/IllegalArgumentException"), ("java/lang/UnsupportedOperationException", "java/lang/IndexOutOfBoundsException"), ("java/lang/UnsupportedOperationException", "java/lang/IllegalStateException"), ("java/lang/UnsupportedOperationException", "java/lang/ArithmeticException"), ("java/lang/ArithmeticException", "java/lang/IllegalArgumentException"), ("java/lang/ArithmeticException", "java/lang/IndexOutOfBoundsException"), ("java/lang/ArithmeticException", "java/lang/IllegalStateException"), ("java/lang/ArithmeticException", "java/lang/UnsupportedOperationException")]
def ao_w : List String := ["HydrantRows$Hydrant", "HydrantRows$Test", "HydrantRows$Works"]
/-- what stays as it is through a whole run -/
def cx_K (z : Nat) (D : va_G) (ac : Nat → ClassId) (sa : Nat → Nat) (U : State) : Prop := z ≤ U.heap.size ∧ va_K D cl_w (at_y ac) U ∧ (vx_Zq Bundle.tN "UNASSIGNED_STACK" Bundle.steD (pm_A z) U U.heap ∧ vx_Zq Bundle.tN "SUPPRESSED_SENTINEL" Bundle.listD (pm_A z) U U.heap) ∧ (∀ w ∈ ow_w, va_Nw w U) ∧ (∀ q ∈ nc_w, va_Nc q.1 q.2 U) ∧ (∀ q ∈ st_w, vk_R cn_C q.1 q.2 (sa q.1) U) ∧ (∀ C ∈ ao_w, va_AO C U)
def ow_k : Cond → Bool
  | .castable _ _ => true
  | .declares _ => true
  | .methodLinkNest _ _ _ _ => true
  | _ => false
theorem ow_all : ow_w.all ow_k = true := by decide +kernel
theorem ow_warm {w : Cond} (hw : ow_k w = true) {s U : State} (hW : s.WarmedH U.vm) (h : va_Nw w s) : va_Nw w U := by
  cases w <;> first | exact va_Nw.warmC hW h | exact va_Nw.warmD hW h | exact va_Nw.warmM hW h | cases hw
theorem cx_K.next {z : Nat} {D : va_G} {ac : Nat → ClassId} {sa : Nat → Nat} {s U : State} {H : Heap} {locs : List Loc} (h : cx_K z D ac sa s) (hS : va_S (pm_A z) s.heap H locs) (hU : U.heap = H) (hW : s.WarmedH U.vm) : cx_K z D ac sa U := by
  obtain ⟨h1, h2, ⟨h3, h4⟩, h5, h6, h7, h8⟩ := h
  refine ⟨by rw [hU]; exact Nat.le_trans h1 hS.1, va_K.moved hW.alike h2, ⟨?_, ?_⟩, fun w hw => ow_warm (List.all_eq_true.mp ow_all w hw) hW (h5 w hw), fun q hq => va_Nc.moved hW.alike (h6 q hq), fun q hq => vk_R.warm hW (h7 q hq), fun C hC => va_AO.moved hW.alike (h8 C hC)⟩
  · rw [hU]; exact vx_Zq.moved hW.alike (h3.kept hS.2.1)
  · rw [hU]; exact vx_Zq.moved hW.alike (h4.kept hS.2.1)
theorem cx_K.calling {z : Nat} {D : va_G} {ac : Nat → ClassId} {sa : Nat → Nat} {U : State} {g : JFrame} {mk : MethodId} {a : Array Value} (h : cx_K z D ac sa U) : cx_K z D ac sa (U.calling g mk a) := by
  obtain ⟨h1, h2, ⟨h3, h4⟩, h5, h6, h7, h8⟩ := h
  have hv : (U.calling g mk a).vm = U.vm := rfl
  have ha : U.vm.Alike (U.calling g mk a).vm := Vm.Alike.refl U.vm
  exact ⟨h1, va_K.moved ha h2, ⟨vx_Zq.moved ha h3, vx_Zq.moved ha h4⟩, fun w hw => va_Nw.same (u := U) (U := U.calling g mk a) (by have h9 := List.all_eq_true.mp ow_all w hw; cases w <;> first | rfl | cases h9) hv.symm (h5 w hw), fun q hq => va_Nc.moved ha (h6 q hq), fun q hq => vk_R.same hv (h7 q hq), fun C hC => va_AO.moved ha (h8 C hC)⟩
/-- a method's start -/
def cx_P (z : Nat) (D : va_G) (ac : Nat → ClassId) (sa : Nat → Nat) (P : pm_T) (av : List Value) : Array Value → State → Prop := va_Pc av (fun U => cx_K z D ac sa U ∧ pm_H z D cl_w P U.heap)
theorem cx_blind {z : Nat} {D : va_G} {ac : Nat → ClassId} {sa : Nat → Nat} {P : pm_T} {av : List Value} : FrameBlind (cx_P z D ac sa P av) := fun _ _ _ _ q => ⟨q.1, q.2.1.calling, q.2.2⟩
theorem cx_pre {z : Nat} {D : va_G} {ac : Nat → ClassId} {sa : Nat → Nat} {P : pm_T} {av : List Value} {s : State} {H : Heap} {locs : List Loc} (hK : cx_K z D ac sa s) (hw : pm_W z D cl_w P s.heap H locs) : ∀ U : State, U.heap = H → s.WarmedH U.vm → cx_P z D ac sa P av av.toArray U := fun _ hU hW => ⟨rfl, hK.next hw.2.2 hU hW, by rw [hU]; exact hw.2.1⟩
/-- a method's end: its answer, its world; or what it throws -/
def cx_Q (z : Nat) (D : va_G) (post : Option Value → pm_T → Prop) : Array Value → State → Outcome → State → Prop := fun _ st oc t => (∃ (v : Option Value) (P : pm_T), oc = .returned v ∧ post v P ∧ pm_H z D cl_w P t.heap) ∧ va_F (pm_A z) st t
def cx_X (z : Nat) (D : va_G) (xp : String → pm_T → Prop) : String → State → State → Prop := fun E st t => ∃ P : pm_T, xp E P ∧ pm_H z D cl_w P t.heap ∧ va_F (pm_A z) st t
def cx_M (l : Launch) (y : MethodName) (b : ByteArray) (n : Nat) (ret : Option FieldType) (rm : Room) (z : Nat) (D : va_G) (ac : Nat → ClassId) (sa : Nat → Nat) (P : pm_T) (av : List Value) (post : Option Value → pm_T → Prop) : Prop := Met l y (Cond.code y b n ret :: gw) rm (cx_P z D ac sa P av) (cx_Q z D post) rm.cells rm.slots (pm_A z)
def cx_V (l : Launch) (y : MethodName) (b : ByteArray) (n : Nat) (ret : Option FieldType) (rm : Room) (z : Nat) (D : va_G) (ac : Nat → ClassId) (sa : Nat → Nat) (P : pm_T) (av : List Value) (post : Option Value → pm_T → Prop) (xp : String → pm_T → Prop) : Prop := vx_Met l y (Cond.code y b n ret :: gw) rm (cx_P z D ac sa P av) (cx_Q z D post) (cx_X z D xp) rm.cells rm.slots (pm_A z)
theorem cx_good {w : Cond} (h : w ∈ gw) : w ∈ gw ∧ ((w.onTables && w.keeps) = true ∨ ∃ ty, w = .arrayClass ty) := ⟨h, good_of_word (gw_good w h)⟩
theorem cx_gi {c : Cond} (h : c ∈ gw) : GoodIn gw (c :: gw) := fun w hw => (List.mem_cons.mp hw).elim (fun e => by rw [e]; exact cx_good h) (fun e => cx_good e)
theorem cx_gv {own C : String} {i : Nat} {y : MethodName} {c : Cond} (h1 : Cond.methodLink own i y ∈ gw) (h2 : Cond.instanceMethod y ∈ gw) (h3 : Cond.selects C y y ∈ gw) (h4 : Cond.initialized C ∈ gw) (h5 : c ∈ gw) : GoodIn gw (wsV own i C y (c :: gw)) := by
  intro w hw
  rcases List.mem_append.mp hw with h | h
  · simp only [List.mem_cons, List.not_mem_nil, or_false] at h
    rcases h with rfl | rfl | rfl | rfl
    · exact cx_good h1
    · exact cx_good h2
    · exact cx_good h3
    · exact cx_good h4
  · exact cx_gi h5 w h
theorem cx_gs {own : String} {i : Nat} {y : MethodName} {c : Cond} (h1 : Cond.methodLink own i y ∈ gw) (h2 : Cond.static y ∈ gw) (h4 : Cond.initialized own ∈ gw) (h5 : c ∈ gw) : GoodIn gw (wsS own i y (c :: gw)) := by
  intro w hw
  rcases List.mem_append.mp hw with h | h
  · simp only [List.mem_cons, List.not_mem_nil, or_false] at h
    rcases h with rfl | rfl | rfl
    · exact cx_good h1
    · exact cx_good h2
    · exact cx_good h4
  · exact cx_gi h5 w h
section CXR
variable {p : Program} {l : Launch} {e : Env} {R : Room} {s : State} {m : MethodId} {args : Array Value} {below : List Frame} {meth : Method} {c : Code} {H : Heap} {locs : List Loc} {cells slots : Nat} {Q : State → Prop}
variable {cc : ByteArray} {pc : Nat} {ls : Array Slot} {st0 rest : List Value} {D : va_G} {z : Nat} {ac : Nat → ClassId} {sa : Nat → Nat} {P : pm_T} {post : Option Value → pm_T → Prop} {xp : String → pm_T → Prop}
/-- ends -/
theorem cx_end (hw : pm_W z D cl_w P s.heap H locs) {v : Option Value} (hp : post v P) {t : State} (ht : t.heap = H) : cx_Q z D post args s (.returned v) t := ⟨⟨v, P, rfl, hp, by rw [ht]; exact hw.2.1⟩, hw.2.2.F ht⟩
theorem cx_iret (hx : p.tables.exec = Jvm.exec) (hb : c.code = cc) {ty : FieldType} (hr : meth.sig.returnType = some ty) {v : Int32} (hn : narrow ty (.int v) = .int v) (hlocks : meth.locks = false) (hw : pm_W z D cl_w P s.heap H locs) (hdg : decode cc pc = .ok (.ireturn, 1)) {mc ms : Nat} (h1 : cells ≤ mc) (h2 : slots ≤ ms) (hp : post (some (.int v)) P) : W p l e R s m args below meth c H locs cells slots (MQ below (cx_Q z D post) args s mc ms (pm_A z)) (F0 m pc ls [.int v]) :=
  W.widen h1 h2 (W.zret hx hb hr hn (fun t ht _ => cx_end hw hp ht) hw.2.2.2.2 hdg hlocks)
theorem cx_lret (hx : p.tables.exec = Jvm.exec) (hb : c.code = cc) (hr : meth.sig.returnType = some .long) {v : Int64} (hlocks : meth.locks = false) (hw : pm_W z D cl_w P s.heap H locs) (hdg : decode cc pc = .ok (.lreturn, 1)) {mc ms : Nat} (h1 : cells ≤ mc) (h2 : slots ≤ ms) (hp : post (some (.long v)) P) : W p l e R s m args below meth c H locs cells slots (MQ below (cx_Q z D post) args s mc ms (pm_A z)) (F0 m pc ls [.long v]) :=
  W.widen h1 h2 (W.lret hx hb hr (fun t ht _ => cx_end hw hp ht) hw.2.2.2.2 hdg hlocks)
theorem cx_vret (hx : p.tables.exec = Jvm.exec) (hb : c.code = cc) (hr : meth.sig.returnType = none) (hlocks : meth.locks = false) (hw : pm_W z D cl_w P s.heap H locs) (hdg : decode cc pc = .ok (.return_, 1)) {mc ms : Nat} (h1 : cells ≤ mc) (h2 : slots ≤ ms) (hp : post none P) : W p l e R s m args below meth c H locs cells slots (MQ below (cx_Q z D post) args s mc ms (pm_A z)) (F0 m pc ls []) :=
  W.widen h1 h2 (W.vret hx hb hr (fun t ht _ => cx_end hw hp ht) hw.2.2.2.2 hdg hlocks)
theorem cx_aret (hx : p.tables.exec = Jvm.exec) (hb : c.code = cc) {n : String} (hr : meth.sig.returnType = some (.object n)) {v : Nat} (hlocks : meth.locks = false) (hw : pm_W z D cl_w P s.heap H locs) (hdg : decode cc pc = .ok (.areturn, 1)) {mc ms : Nat} (h1 : cells ≤ mc) (h2 : slots ≤ ms) (hp : post (some (.ref v)) P) : W p l e R s m args below meth c H locs cells slots (MQ below (cx_Q z D post) args s mc ms (pm_A z)) (F0 m pc ls [.ref v]) :=
  W.widen h1 h2 (W.aret hx hb hr (Or.inl ⟨_, rfl⟩) (Or.inr ⟨_, rfl⟩) (fun t ht _ => cx_end hw hp ht) hw.2.2.2.2 hdg hlocks)
/-- behind a call that returns -/
theorem cx_after {a : Array Value} {mc ms : Nat} (hr : va_Run p l e R s m args below meth c H locs cells slots mc ms (F0 m pc ls st0) rest (cx_Q z D post a) (pm_A z)) (hw : pm_W z D cl_w P s.heap H locs)
    (kk : ∀ (v : Option Value) (P' : pm_T) (H1 : Heap) (locs1 : List Loc), post v P' → pm_W z D cl_w P' s.heap H1 locs1 → W p l e R s m args below meth c H1 locs1 (cells + mc) (slots + ms) Q (F0 m (pc + 3) ls (v.toList ++ rest))) : W p l e R s m args below meth c H locs cells slots Q (F0 m pc ls st0) := by
  intro T hT X
  obtain ⟨v, st₀, t, T', L, h0, X', hL, e1, e2, ⟨⟨v', P', hv, hp, hB⟩, hF⟩, st⟩ := hr T hT X
  cases hv
  have h3 : va_S (pm_A z) s.heap T'.heap (locs ++ L) := by
    obtain ⟨g1, g2, g3⟩ := hw.2.2
    obtain ⟨f1, f2⟩ := hF
    rw [h0] at f1 f2
    refine ⟨by rw [e1]; exact Nat.le_trans g1 f1, fun q hq hA => ?_, fun q hq => (List.mem_append.mp hq).elim (g3 q) (hL q)⟩
    rw [e1, f2 q (Nat.lt_of_lt_of_le hq g1) hA]
    exact g2 q hq hA
  obtain ⟨t2, a1, b1⟩ := kk v P' T'.heap _ hp ⟨hw.1, by rw [e1]; exact hB, h3⟩ T' rfl X'
  exact ⟨t2, st t2 a1, b1⟩
/-- behind a call that returns or throws -/
theorem cx_afterX {a : Array Value} {mc ms : Nat} (hr : vx_Run p l e R s m args below meth c H locs cells slots mc ms (F0 m pc ls st0) rest (cx_Q z D post a) (cx_X z D xp) (pm_A z)) (hw : pm_W z D cl_w P s.heap H locs)
    (kx : ∀ (E : String) (ce : Cell) (q9 : Addr) (P' : pm_T) (H1 : Heap) (locs1 : List Loc), xp E P' → pm_W z D cl_w P' s.heap H1 locs1 → H1[q9]? = some ce → ce.vm = .none → s.vm.findClass E = some ce.cls → vx_W p l e R s m args below meth c H1 locs1 (cells + mc) (slots + ms) Q (F0 m pc ls rest) q9)
    (kk : ∀ (v : Option Value) (P' : pm_T) (H1 : Heap) (locs1 : List Loc), post v P' → pm_W z D cl_w P' s.heap H1 locs1 → W p l e R s m args below meth c H1 locs1 (cells + mc) (slots + ms) Q (F0 m (pc + 3) ls (v.toList ++ rest))) : W p l e R s m args below meth c H locs cells slots Q (F0 m pc ls st0) := by
  intro T hT X
  have h3 : ∀ {st₀ t T' : State} {L : List Loc}, st₀.heap = H → T'.heap = t.heap → (∀ q ∈ L, pm_A z q.base) → va_F (pm_A z) st₀ t → va_S (pm_A z) s.heap T'.heap (locs ++ L) := by
    intro st₀ t T' L h0 e1 hL hF
    obtain ⟨g1, g2, g3⟩ := hw.2.2
    obtain ⟨f1, f2⟩ := hF
    rw [h0] at f1 f2
    refine ⟨by rw [e1]; exact Nat.le_trans g1 f1, fun q hq hA => ?_, fun q hq => (List.mem_append.mp hq).elim (g3 q) (hL q)⟩
    rw [e1, f2 q (Nat.lt_of_lt_of_le hq g1) hA]
    exact g2 q hq hA
  rcases hr T hT X with ⟨v, st₀, t, T', L, h0, X', hL, e1, e2, ⟨⟨v', P', hv, hp, hB⟩, hF⟩, st⟩ | ⟨q, st₀, t, T', L, E, ce, h0, X', hL, e1, e2, ⟨P', hp, hB, hF⟩, hce, hcv, hcl, st⟩
  · cases hv
    obtain ⟨t2, a1, b1⟩ := kk v P' T'.heap _ hp ⟨hw.1, by rw [e1]; exact hB, h3 h0 e1 hL hF⟩ T' rfl X'
    exact ⟨t2, st t2 a1, b1⟩
  · obtain ⟨t2, a1, b1⟩ := kx E ce q P' T'.heap _ hp ⟨hw.1, by rw [e1]; exact hB, h3 h0 e1 hL hF⟩ (by rw [e1]; exact hce) hcv hcl T' rfl X'
    exact ⟨t2, st.trans a1, b1⟩
/-- not caught: on to the caller -/
theorem cx_pass {Qc : Array Value → State → Outcome → State → Prop} {E : String} {ce : Cell} {q : Addr} {mc ms : Nat} (hout : ∀ x ∈ c.exceptionTable.toList, False) (hlocks : meth.locks = false) (hcell : H[q]? = some ce) (hv : ce.vm = .none) (hcl : s.vm.findClass E = some ce.cls) (hw : pm_W z D cl_w P s.heap H locs) (hp : xp E P) (h1 : cells ≤ mc) (h2 : slots ≤ ms) :
    vx_W p l e R s m args below meth c H locs cells slots (vx_MQ below Qc (cx_X z D xp) args s mc ms (pm_A z)) (F0 m pc ls rest) q :=
  vx_out (fun x hx => (hout x hx).elim) hlocks hcell hv hcl (fun t ht _ => ⟨P, hp, by rw [ht]; exact hw.2.1, hw.2.2.F ht⟩) hw.2.2.2.2 h1 h2
variable {nL idx n maxL : Nat} {own C : String} {y : MethodName} {bytes : ByteArray} {ret : Option FieldType} {rm : Room} {As : List Value} {b ci N : Nat} {T : u_T} {fs : List Value}
/-- calls of instance methods -/
theorem cx_rV (S : p.tables.exec = Jvm.exec ∧ c.code = cc ∧ c.maxLocals = nL ∧ s.vm.findClass own = some m.cls ∧ ∀ w ∈ gw, w.before args s = true) (hM : cx_M l y bytes maxL ret rm z D ac sa P (.ref b :: As) post)
    (g : GoodIn gw (wsV own idx C y (Cond.code y bytes maxL ret :: gw))) (hd : y.cls = C ∧ y.cls ≠ "java/lang/invoke/MethodHandle" ∧ y.cls ≠ "java/lang/invoke/VarHandle" ∧ (parseMethodDescriptor y.desc).map (fun d => d.parameters.length) = some n) (hR : rm.frames + 1 ≤ R.frames ∧ 8 + (maxL + 11) + rm.locals ≤ R.locals)
    (hK : cx_K z D ac sa s) (hw : pm_W z D cl_w P s.heap H locs) (he : P b = some (.inr (ci, fs))) (hc : cl_w[ci]? = some (C, T, N)) (hn : As.length = n) (hls : ls.size = nL) (hst : st0 = As.reverse ++ .ref b :: rest) (hrest : (rest.map fun v => v.category).sum ≤ 8) (hdg : decode cc pc = .ok (.invokevirtual idx, 3)) (hf : cells + rm.cells ≤ R.cells ∧ slots + rm.slots ≤ R.slots) :
    va_Run p l e R s m args below meth c H locs cells slots rm.cells rm.slots (F0 m pc ls st0) rest (cx_Q z D post (Value.ref b :: As).toArray) (pm_A z) := by
  obtain ⟨ws, hP, hD, hfi, -, -⟩ := hw.conv
  obtain ⟨q0, hq⟩ := hfi _ _ he
  exact va_runV S hM (cwV n S.2.2.2.2 g rfl rfl rfl hd hR) ⟨cx_blind, va_recv hK.2.1 hP hc hq, cx_pre hK hw⟩ rfl hn hls hst (lv_room hrest) hdg hf
theorem cx_rVX (S : p.tables.exec = Jvm.exec ∧ c.code = cc ∧ c.maxLocals = nL ∧ s.vm.findClass own = some m.cls ∧ ∀ w ∈ gw, w.before args s = true) (hM : cx_V l y bytes maxL ret rm z D ac sa P (.ref b :: As) post xp)
    (g : GoodIn gw (wsV own idx C y (Cond.code y bytes maxL ret :: gw))) (hd : y.cls = C ∧ y.cls ≠ "java/lang/invoke/MethodHandle" ∧ y.cls ≠ "java/lang/invoke/VarHandle" ∧ (parseMethodDescriptor y.desc).map (fun d => d.parameters.length) = some n) (hR : rm.frames + 1 ≤ R.frames ∧ 8 + (maxL + 11) + rm.locals ≤ R.locals)
    (hK : cx_K z D ac sa s) (hw : pm_W z D cl_w P s.heap H locs) (he : P b = some (.inr (ci, fs))) (hc : cl_w[ci]? = some (C, T, N)) (hn : As.length = n) (hls : ls.size = nL) (hst : st0 = As.reverse ++ .ref b :: rest) (hrest : (rest.map fun v => v.category).sum ≤ 8) (hdg : decode cc pc = .ok (.invokevirtual idx, 3)) (hf : cells + rm.cells ≤ R.cells ∧ slots + rm.slots ≤ R.slots) :
    vx_Run p l e R s m args below meth c H locs cells slots rm.cells rm.slots (F0 m pc ls st0) rest (cx_Q z D post (Value.ref b :: As).toArray) (cx_X z D xp) (pm_A z) := by
  obtain ⟨ws, hP, hD, hfi, -, -⟩ := hw.conv
  obtain ⟨q0, hq⟩ := hfi _ _ he
  exact vx_runV S hM (cwV n S.2.2.2.2 g rfl rfl rfl hd hR) ⟨cx_blind, va_recv hK.2.1 hP hc hq, cx_pre hK hw⟩ rfl hn hls hst (lv_room hrest) hdg hf
theorem cx_rS (S : p.tables.exec = Jvm.exec ∧ c.code = cc ∧ c.maxLocals = nL ∧ s.vm.findClass own = some m.cls ∧ ∀ w ∈ gw, w.before args s = true) (hM : cx_M l y bytes maxL ret rm z D ac sa P As post)
    (g : GoodIn gw (wsS own idx y (Cond.code y bytes maxL ret :: gw))) (hd : y.cls = own ∧ y.cls ≠ "java/lang/invoke/MethodHandle" ∧ y.cls ≠ "java/lang/invoke/VarHandle" ∧ (parseMethodDescriptor y.desc).map (fun d => d.parameters.length) = some n) (hR : rm.frames + 1 ≤ R.frames ∧ 8 + (maxL + 11) + rm.locals ≤ R.locals)
    (hK : cx_K z D ac sa s) (hw : pm_W z D cl_w P s.heap H locs) (hn : As.length = n) (hls : ls.size = nL) (hst : st0 = As.reverse ++ rest) (hrest : (rest.map fun v => v.category).sum ≤ 8) (hdg : decode cc pc = .ok (.invokestatic idx, 3)) (hf : cells + rm.cells ≤ R.cells ∧ slots + rm.slots ≤ R.slots) :
    va_Run p l e R s m args below meth c H locs cells slots rm.cells rm.slots (F0 m pc ls st0) rest (cx_Q z D post As.toArray) (pm_A z) :=
  va_runS S hM (cwS n S.2.2.2.2 g rfl rfl rfl hd hR) ⟨cx_blind, cx_pre hK hw⟩ rfl hn hls hst (lv_room hrest) hdg hf
theorem cx_rSX (S : p.tables.exec = Jvm.exec ∧ c.code = cc ∧ c.maxLocals = nL ∧ s.vm.findClass own = some m.cls ∧ ∀ w ∈ gw, w.before args s = true) (hM : cx_V l y bytes maxL ret rm z D ac sa P As post xp)
    (g : GoodIn gw (wsS own idx y (Cond.code y bytes maxL ret :: gw))) (hd : y.cls = own ∧ y.cls ≠ "java/lang/invoke/MethodHandle" ∧ y.cls ≠ "java/lang/invoke/VarHandle" ∧ (parseMethodDescriptor y.desc).map (fun d => d.parameters.length) = some n) (hR : rm.frames + 1 ≤ R.frames ∧ 8 + (maxL + 11) + rm.locals ≤ R.locals)
    (hK : cx_K z D ac sa s) (hw : pm_W z D cl_w P s.heap H locs) (hn : As.length = n) (hls : ls.size = nL) (hst : st0 = As.reverse ++ rest) (hrest : (rest.map fun v => v.category).sum ≤ 8) (hdg : decode cc pc = .ok (.invokestatic idx, 3)) (hf : cells + rm.cells ≤ R.cells ∧ slots + rm.slots ≤ R.slots) :
    vx_Run p l e R s m args below meth c H locs cells slots rm.cells rm.slots (F0 m pc ls st0) rest (cx_Q z D post As.toArray) (cx_X z D xp) (pm_A z) :=
  vx_runS S hM (cwS n S.2.2.2.2 g rfl rfl rfl hd hR) ⟨cx_blind, cx_pre hK hw⟩ rfl hn hls hst (lv_room hrest) hdg hf
theorem cx_rI (S : p.tables.exec = Jvm.exec ∧ c.code = cc ∧ c.maxLocals = nL ∧ s.vm.findClass own = some m.cls ∧ ∀ w ∈ gw, w.before args s = true) (hM : cx_M l y bytes maxL none rm z D ac sa P (.ref b :: As) post)
    (h5 : Cond.code y bytes maxL none ∈ gw) (h1 : Cond.methodLink own idx y ∈ gw) (h2 : Cond.instanceMethod y ∈ gw) (h4 : Cond.initialized y.cls ∈ gw) (hy : y.name = "<init>") (hd : y.cls ≠ "java/lang/invoke/MethodHandle" ∧ y.cls ≠ "java/lang/invoke/VarHandle" ∧ (parseMethodDescriptor y.desc).map (fun d => d.parameters.length) = some n) (hR : rm.frames + 1 ≤ R.frames ∧ 8 + (maxL + 11) + rm.locals ≤ R.locals)
    (hK : cx_K z D ac sa s) (hw : pm_W z D cl_w P s.heap H locs) (hn : As.length = n) (hls : ls.size = nL) (hst : st0 = As.reverse ++ .ref b :: rest) (hrest : (rest.map fun v => v.category).sum ≤ 8) (hdg : decode cc pc = .ok (.invokespecial idx, 3)) (hf : cells + rm.cells ≤ R.cells ∧ slots + rm.slots ≤ R.slots) :
    va_Run p l e R s m args below meth c H locs cells slots rm.cells rm.slots (F0 m pc ls st0) rest (cx_Q z D post (Value.ref b :: As).toArray) (pm_A z) :=
  va_runI S hM (cwI n S.2.2.2.2 (cx_gi h5) rfl rfl rfl (S.2.2.2.2 _ h4) (S.2.2.2.2 _ h1) (S.2.2.2.2 _ h2) hy hd hR) ⟨cx_blind, cx_pre hK hw⟩ rfl hn hls hst (lv_room hrest) hdg hf
end CXR
