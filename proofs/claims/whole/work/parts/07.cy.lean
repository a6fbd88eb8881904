abbrev xn_IAE : String := "java/lang/IllegalArgumentException"
abbrev xa_IAE : List Cond := vx_atS cn_C 58 xn_IAE ["java/lang/RuntimeException", "java/lang/Exception"]
set_option maxRecDepth 100000 in
theorem xg_IAE : ∀ w ∈ xa_IAE.filter goodWord, w ∈ gw := by decide +kernel
set_option maxRecDepth 100000 in
theorem xb_IAE : ∀ w ∈ xa_IAE.filter (fun w => !goodWord w), w ∈ ow_w := by decide +kernel
set_option maxRecDepth 100000 in
theorem xo_IAE : ∀ w ∈ Cond.classLink cn_C 54 xn_IAE :: Cond.initialized xn_IAE :: xa_IAE, vx_ot w = true := by decide +kernel
abbrev xn_IOB : String := "java/lang/IndexOutOfBoundsException"
abbrev xa_IOB : List Cond := vx_atS cn_C 136 xn_IOB ["java/lang/RuntimeException", "java/lang/Exception"]
set_option maxRecDepth 100000 in
theorem xg_IOB : ∀ w ∈ xa_IOB.filter goodWord, w ∈ gw := by decide +kernel
set_option maxRecDepth 100000 in
theorem xb_IOB : ∀ w ∈ xa_IOB.filter (fun w => !goodWord w), w ∈ ow_w := by decide +kernel
set_option maxRecDepth 100000 in
theorem xo_IOB : ∀ w ∈ Cond.classLink cn_C 132 xn_IOB :: Cond.initialized xn_IOB :: xa_IOB, vx_ot w = true := by decide +kernel
abbrev xn_ISE : String := "java/lang/IllegalStateException"
abbrev xa_ISE : List Cond := vx_atS cn_C 90 xn_ISE ["java/lang/RuntimeException", "java/lang/Exception"]
set_option maxRecDepth 100000 in
theorem xg_ISE : ∀ w ∈ xa_ISE.filter goodWord, w ∈ gw := by decide +kernel
set_option maxRecDepth 100000 in
theorem xb_ISE : ∀ w ∈ xa_ISE.filter (fun w => !goodWord w), w ∈ ow_w := by decide +kernel
set_option maxRecDepth 100000 in
theorem xo_ISE : ∀ w ∈ Cond.classLink cn_C 86 xn_ISE :: Cond.initialized xn_ISE :: xa_ISE, vx_ot w = true := by decide +kernel
abbrev xn_UOE : String := "java/lang/UnsupportedOperationException"
abbrev xa_UOE : List Cond := vx_atS cn_C 69 xn_UOE ["java/lang/RuntimeException", "java/lang/Exception"]
set_option maxRecDepth 100000 in
theorem xg_UOE : ∀ w ∈ xa_UOE.filter goodWord, w ∈ gw := by decide +kernel
set_option maxRecDepth 100000 in
theorem xb_UOE : ∀ w ∈ xa_UOE.filter (fun w => !goodWord w), w ∈ ow_w := by decide +kernel
set_option maxRecDepth 100000 in
theorem xo_UOE : ∀ w ∈ Cond.classLink cn_C 65 xn_UOE :: Cond.initialized xn_UOE :: xa_UOE, vx_ot w = true := by decide +kernel
abbrev xn_ARE : String := "java/lang/ArithmeticException"
abbrev xa_ARE : List Cond := vx_atS cn_C 271 xn_ARE ["java/lang/RuntimeException", "java/lang/Exception"]
set_option maxRecDepth 100000 in
theorem xg_ARE : ∀ w ∈ xa_ARE.filter goodWord, w ∈ gw := by decide +kernel
set_option maxRecDepth 100000 in
theorem xb_ARE : ∀ w ∈ xa_ARE.filter (fun w => !goodWord w), w ∈ ow_w := by decide +kernel
set_option maxRecDepth 100000 in
theorem xo_ARE : ∀ w ∈ Cond.classLink cn_C 267 xn_ARE :: Cond.initialized xn_ARE :: xa_ARE, vx_ot w = true := by decide +kernel
theorem ow_tab {w : Cond} (h : w ∈ ow_w) : w.onTables = true := by
  have h9 := List.all_eq_true.mp ow_all w h
  cases w <;> first | rfl | cases h9
theorem cx_hat {args : Array Value} {s : State} {z : Nat} {D : va_G} {ac : Nat → ClassId} {sa : Nat → Nat} {L : List Cond} (hg : ∀ w ∈ gw, w.before args s = true) (hK : cx_K z D ac sa s) (h1 : ∀ w ∈ L.filter goodWord, w ∈ gw) (h2 : ∀ w ∈ L.filter (fun w => !goodWord w), w ∈ ow_w) : ∀ w ∈ L, w.before args s = true := by
  intro w hw
  by_cases h : goodWord w = true
  · exact hg w (h1 w (List.mem_filter.mpr ⟨hw, h⟩))
  · have h3 := h2 w (List.mem_filter.mpr ⟨hw, by simpa using h⟩)
    exact va_Nw.use (ow_tab h3) (hK.2.2.2.1 w h3)
section CYR
variable {p : Program} {l : Launch} {e : Env} {R : Room} {s : State} {m : MethodId} {args : Array Value} {below : List Frame} {meth : Method} {c : Code} {H : Heap} {locs : List Loc} {cells slots : Nat} {Q : State → Prop}
variable {cc : ByteArray} {pc : Nat} {ls : Array Slot} {st0 rest : List Value} {D : va_G} {z : Nat} {ac : Nat → ClassId} {sa : Nat → Nat} {P : pm_T} {post : Option Value → pm_T → Prop} {xp : String → pm_T → Prop} {Qc : Array Value → State → Outcome → State → Prop}
theorem cx_thr_end {E : String} (hw : pm_W z D cl_w P s.heap H locs) (hp : xp E P) : ∀ t : State, s.vm.Alike t.vm → H.size ≤ t.heap.size → (∀ q : Nat, q < H.size → t.heap[q]? = H[q]?) → cx_X z D xp E s t := by
  intro t _ h1 h2
  refine ⟨P, hp, fun a x ha => ⟨va_at.kept (hw.2.1 a x ha).1 (h2 a (va_at.lt (hw.2.1 a x ha).1)), (hw.2.1 a x ha).2⟩, Nat.le_trans hw.2.2.1 h1, fun q hq hA => ?_⟩
  rw [h2 q (Nat.lt_of_lt_of_le hq hw.2.2.1)]
  exact hw.2.2.2.1 q hq hA
theorem cx_thrS (hx : p.tables.exec = Jvm.exec) (hb : c.code = cc) (hT : l.stackTraces = false) (hml : c.maxLocals = ls.size) (hown : s.vm.findClass cn_C = some m.cls) (hg : ∀ w ∈ gw, w.before args s = true) (hK : cx_K z D ac sa s) (hw : pm_W z D cl_w P s.heap H locs) {E text : String} {ik is ic mc ms : Nat}
    (hE : Bundle.fit E = true) (hk : Cond.classLink cn_C ik E ∈ gw) (hi : Cond.initialized E ∈ gw) (h1 : ∀ w ∈ (vx_atS cn_C ic E ["java/lang/RuntimeException", "java/lang/Exception"]).filter goodWord, w ∈ gw) (h2 : ∀ w ∈ (vx_atS cn_C ic E ["java/lang/RuntimeException", "java/lang/Exception"]).filter (fun w => !goodWord w), w ∈ ow_w) (h3 : ∀ w ∈ Cond.classLink cn_C ik E :: Cond.initialized E :: vx_atS cn_C ic E ["java/lang/RuntimeException", "java/lang/Exception"], vx_ot w = true) (hs : (is, text) ∈ st_w)
    (d0 : decode cc pc = .ok (.new ik, 3)) (d3 : decode cc (pc + 3) = .ok (.dup, 1)) (d4 : decode cc (pc + 4) = .ok (.ldc is, 2)) (d6 : decode cc (pc + 6) = .ok (.invokespecial ic, 3)) (d9 : decode cc (pc + 9) = .ok (.athrow, 1)) (hout : ∀ x ∈ c.exceptionTable.toList, False)
    (hR : 5 < R.frames ∧ (rest.map fun v => v.category).sum + 82 ≤ R.locals ∧ cells + 1 ≤ R.cells ∧ slots + 6 ≤ R.slots) (hlocks : meth.locks = false) (hc : cells + 1 ≤ mc) (hs9 : slots + 6 ≤ ms) (hp : xp E P) : W p l e R s m args below meth c H locs cells slots (vx_MQ below Qc (cx_X z D xp) args s mc ms (pm_A z)) (F0 m pc ls rest) :=
  vx_throwS (names := ["java/lang/RuntimeException", "java/lang/Exception"]) hx hb hT hown hE (by decide +kernel) (hg _ hk) (hg _ hi) (hK.2.2.2.2.2.1 _ hs) (cx_hat hg hK h1 h2) h3 hK.2.2.1.1 hK.2.2.1.2 hw.2.2 hml.symm d0 d3 d4 d6 d9 (fun x hx => (hout x hx).elim) hR.1 hR.2.1 hR.2.2.1 hR.2.2.2 hlocks (cx_thr_end hw hp) hw.2.2.2.2 hc hs9
theorem cx_thrSW (hx : p.tables.exec = Jvm.exec) (hb : c.code = cc) (hT : l.stackTraces = false) (hml : c.maxLocals = ls.size) (hown : s.vm.findClass cn_C = some m.cls) (hg : ∀ w ∈ gw, w.before args s = true) (hK : cx_K z D ac sa s) (hw : pm_W z D cl_w P s.heap H locs) {E text : String} {ik is ic mc ms : Nat}
    (hE : Bundle.fit E = true) (hk : Cond.classLink cn_C ik E ∈ gw) (hi : Cond.initialized E ∈ gw) (h1 : ∀ w ∈ (vx_atS cn_C ic E ["java/lang/RuntimeException", "java/lang/Exception"]).filter goodWord, w ∈ gw) (h2 : ∀ w ∈ (vx_atS cn_C ic E ["java/lang/RuntimeException", "java/lang/Exception"]).filter (fun w => !goodWord w), w ∈ ow_w) (h3 : ∀ w ∈ Cond.classLink cn_C ik E :: Cond.initialized E :: vx_atS cn_C ic E ["java/lang/RuntimeException", "java/lang/Exception"], vx_ot w = true) (hs : (is, text) ∈ st_w)
    (d0 : decode cc pc = .ok (.new ik, 3)) (d3 : decode cc (pc + 3) = .ok (.dup, 1)) (d4 : decode cc (pc + 4) = .ok (.ldc_w is, 3)) (d7 : decode cc (pc + 7) = .ok (.invokespecial ic, 3)) (d10 : decode cc (pc + 10) = .ok (.athrow, 1)) (hout : ∀ x ∈ c.exceptionTable.toList, False)
    (hR : 5 < R.frames ∧ (rest.map fun v => v.category).sum + 82 ≤ R.locals ∧ cells + 1 ≤ R.cells ∧ slots + 6 ≤ R.slots) (hlocks : meth.locks = false) (hc : cells + 1 ≤ mc) (hs9 : slots + 6 ≤ ms) (hp : xp E P) : W p l e R s m args below meth c H locs cells slots (vx_MQ below Qc (cx_X z D xp) args s mc ms (pm_A z)) (F0 m pc ls rest) :=
  vx_throwSW (names := ["java/lang/RuntimeException", "java/lang/Exception"]) hx hb hT hown hE (by decide +kernel) (hg _ hk) (hg _ hi) (hK.2.2.2.2.2.1 _ hs) (cx_hat hg hK h1 h2) h3 hK.2.2.1.1 hK.2.2.1.2 hw.2.2 hml.symm d0 d3 d4 d7 d10 (fun x hx => (hout x hx).elim) hR.1 hR.2.1 hR.2.2.1 hR.2.2.2 hlocks (cx_thr_end hw hp) hw.2.2.2.2 hc hs9
end CYR
section CYO
variable {l : Launch} {y : MethodName} {b : ByteArray} {n : Nat} {ret : Option FieldType} {rm : Room} {z : Nat} {D : va_G} {ac : Nat → ClassId} {sa : Nat → Nat} {P : pm_T} {av : List Value} {post : Option Value → pm_T → Prop} {xp : String → pm_T → Prop}
theorem cx_ofM (hy : plainName y.cls = true) (hlen : (lg_sl av).length ≤ n) (body : ∀ (p : Program) (e : Env) (s : State) (m : MethodId) (below : List Frame) (meth : Method) (c : Code) (ls : Array Slot), p.tables.exec = Jvm.exec → c.code = b → meth.sig.returnType = ret → c.maxLocals = n → (∀ w ∈ gw, w.before av.toArray s = true) → s.vm.findClass y.cls = some m.cls → meth.locks = false → meth.name = y.name → cx_K z D ac sa s → pm_W z D cl_w P s.heap s.heap [] → lv_has ls n (lv_args 0 av) → W p l e rm s m av.toArray below meth c s.heap [] 0 0 (MQ below (cx_Q z D post) av.toArray s rm.cells rm.slots (pm_A z)) (F0 m 0 ls [])) : cx_M l y b n ret rm z D ac sa P av post := by
  refine Met.ofW (cc := b) (maxL := n) (ret := ret) hy rfl ?_
  intro p e s m args below meth c s₁ B hml hv
  obtain ⟨rfl, hK, hH⟩ := hv
  have hl := lv_entry av (n := n) hlen
  rw [lg_entry_eq]
  exact body p e s m below meth c _ B.exec B.bytes B.returns hml (fun w h => atoms_spec (ws := Cond.code y b n ret :: gw) B.pre w (List.mem_cons_of_mem _ h)) (findClass_of_methodNamed B.named) B.notSynchronized (name_of_methodNamed B.named B.method).1 hK ⟨hK.1, hH, va_S.rf⟩ hl
theorem cx_ofV (hy : plainName y.cls = true) (hlen : (lg_sl av).length ≤ n) (body : ∀ (p : Program) (e : Env) (s : State) (m : MethodId) (below : List Frame) (meth : Method) (c : Code) (ls : Array Slot), p.tables.exec = Jvm.exec → c.code = b → meth.sig.returnType = ret → c.maxLocals = n → (∀ w ∈ gw, w.before av.toArray s = true) → s.vm.findClass y.cls = some m.cls → meth.locks = false → (∀ x ∈ c.exceptionTable.toList, False) → cx_K z D ac sa s → pm_W z D cl_w P s.heap s.heap [] → lv_has ls n (lv_args 0 av) → W p l e rm s m av.toArray below meth c s.heap [] 0 0 (vx_MQ below (cx_Q z D post) (cx_X z D xp) av.toArray s rm.cells rm.slots (pm_A z)) (F0 m 0 ls [])) : cx_V l y b n ret rm z D ac sa P av post xp := by
  refine vx_ofW (cc := b) (maxL := n) (ret := ret) hy rfl ?_
  intro p e s m args below meth c s₁ B hml hout hv
  obtain ⟨rfl, hK, hH⟩ := hv
  have hl := lv_entry av (n := n) hlen
  rw [lg_entry_eq]
  exact body p e s m below meth c _ B.exec B.bytes B.returns hml (fun w h => atoms_spec (ws := Cond.code y b n ret :: gw) B.pre w (List.mem_cons_of_mem _ h)) (findClass_of_methodNamed B.named) B.notSynchronized hout hK ⟨hK.1, hH, va_S.rf⟩ hl
end CYO
section CYN
variable {p : Program} {l : Launch} {e : Env} {R : Room} {s : State} {m : MethodId} {args : Array Value} {below : List Frame} {meth : Method} {c : Code} {H : Heap} {locs : List Loc} {cells slots : Nat} {Q : State → Prop}
variable {cc : ByteArray} {pc : Nat} {ls : Array Slot} {st0 rest : List Value} {D : va_G} {z : Nat} {ac : Nat → ClassId} {sa : Nat → Nat} {P : pm_T} {post : Option Value → pm_T → Prop}
variable {nL idx n maxL : Nat} {own host : String} {y : MethodName} {bytes : ByteArray} {ret : Option FieldType} {rm : Room} {As : List Value} {b : Nat}
theorem cx_rIN (S : p.tables.exec = Jvm.exec ∧ c.code = cc ∧ c.maxLocals = nL ∧ s.vm.findClass own = some m.cls ∧ ∀ w ∈ gw, w.before args s = true) (hM : cx_M l y bytes maxL none rm z D ac sa P (.ref b :: As) post)
    (h5 : Cond.code y bytes maxL none ∈ gw) (h1 : Cond.methodLinkNest own idx y host ∈ ow_w) (h2 : Cond.instanceMethod y ∈ gw) (h4 : Cond.initialized y.cls ∈ gw) (hy : y.name = "<init>") (hd : y.cls ≠ "java/lang/invoke/MethodHandle" ∧ y.cls ≠ "java/lang/invoke/VarHandle" ∧ (parseMethodDescriptor y.desc).map (fun d => d.parameters.length) = some n) (hR : rm.frames + 1 ≤ R.frames ∧ 8 + (maxL + 11) + rm.locals ≤ R.locals)
    (hK : cx_K z D ac sa s) (hw : pm_W z D cl_w P s.heap H locs) (hn : As.length = n) (hls : ls.size = nL) (hst : st0 = As.reverse ++ .ref b :: rest) (hrest : (rest.map fun v => v.category).sum ≤ 8) (hdg : decode cc pc = .ok (.invokespecial idx, 3)) (hf : cells + rm.cells ≤ R.cells ∧ slots + rm.slots ≤ R.slots) :
    va_Run p l e R s m args below meth c H locs cells slots rm.cells rm.slots (F0 m pc ls st0) rest (cx_Q z D post (Value.ref b :: As).toArray) (pm_A z) :=
  va_runIN S hM ⟨va_cnB n S.2.2.2.2 (cx_gi h5) rfl rfl rfl (hK.2.2.2.1 _ h1) (S.2.2.2.2 _ h4) hd hR, hy, S.2.2.2.2 _ h2⟩ ⟨cx_blind, cx_pre hK hw⟩ rfl hn hls hst (lv_room hrest) hdg hf
theorem cx_rSN (S : p.tables.exec = Jvm.exec ∧ c.code = cc ∧ c.maxLocals = nL ∧ s.vm.findClass own = some m.cls ∧ ∀ w ∈ gw, w.before args s = true) (hM : cx_M l y bytes maxL ret rm z D ac sa P As post)
    (h5 : Cond.code y bytes maxL ret ∈ gw) (h1 : Cond.methodLinkNest own idx y host ∈ ow_w) (h2 : Cond.static y ∈ gw) (h4 : Cond.initialized y.cls ∈ gw) (hd : y.cls ≠ "java/lang/invoke/MethodHandle" ∧ y.cls ≠ "java/lang/invoke/VarHandle" ∧ (parseMethodDescriptor y.desc).map (fun d => d.parameters.length) = some n) (hR : rm.frames + 1 ≤ R.frames ∧ 8 + (maxL + 11) + rm.locals ≤ R.locals)
    (hK : cx_K z D ac sa s) (hw : pm_W z D cl_w P s.heap H locs) (hn : As.length = n) (hls : ls.size = nL) (hst : st0 = As.reverse ++ rest) (hrest : (rest.map fun v => v.category).sum ≤ 8) (hdg : decode cc pc = .ok (.invokestatic idx, 3)) (hf : cells + rm.cells ≤ R.cells ∧ slots + rm.slots ≤ R.slots) :
    va_Run p l e R s m args below meth c H locs cells slots rm.cells rm.slots (F0 m pc ls st0) rest (cx_Q z D post As.toArray) (pm_A z) :=
  va_runSN S hM ⟨va_cnB n S.2.2.2.2 (cx_gi h5) rfl rfl rfl (hK.2.2.2.1 _ h1) (S.2.2.2.2 _ h4) hd hR, S.2.2.2.2 _ h2, trivial⟩ ⟨cx_blind, cx_pre hK hw⟩ rfl hn hls hst (lv_room hrest) hdg hf
theorem pm_zald {a : Nat} {tys : List (ClassId × FieldType)} {cl : List vw_C} {H0 : Heap} (hexec : p.tables.exec = Jvm.exec) (hb : c.code = cc) (hK : va_K D cl tys s) (hw : pm_W z D cl P H0 H locs) (t0 : Nat) {cA : ClassId} {n : Nat} {f : Nat → Int32} (he : P a = some (.inl (cA, n, .inl f))) (ht : tys[t0]? = some (cA, .boolean)) {i : Int32} (hin : vp_in i n) (hdg : decode cc pc = .ok (.baload, 1))
    (kk : W p l e R s m args below meth c H locs cells slots Q (F0 m (pc + 1) ls (.int (f i.toNatClampNeg) :: rest))) : W p l e R s m args below meth c H locs cells slots Q (F0 m pc ls (.int i :: .ref a :: rest)) := by
  obtain ⟨ws, hP, hD, hf, -, -⟩ := hw.conv
  obtain ⟨q0, hq⟩ := hf _ _ he
  exact va_zald hexec hb hK hP q0 t0 hq ht hin hdg kk
theorem pm_zast {a : Nat} {tys : List (ClassId × FieldType)} {cl : List vw_C} {H0 : Heap} (hexec : p.tables.exec = Jvm.exec) (hb : c.code = cc) (hK : va_K D cl tys s) (hw : pm_W z D cl P H0 H locs) (t0 : Nat) {cA : ClassId} {n : Nat} {f : Nat → Int32} (he : P a = some (.inl (cA, n, .inl f))) (ht : tys[t0]? = some (cA, .boolean)) {i : Int32} {x : Int32} (hin : vp_in i n) (hdg : decode cc pc = .ok (.bastore, 1))
    (kk : ∀ (H1 : Heap) (locs1 : List Loc), pm_W z D cl (pm_up P a (.inl (cA, n, .inl (upd f i.toNatClampNeg (vp_nar .boolean x))))) H0 H1 locs1 → W p l e R s m args below meth c H1 locs1 cells slots Q (F0 m (pc + 1) ls rest)) : W p l e R s m args below meth c H locs cells slots Q (F0 m pc ls (.int x :: .int i :: .ref a :: rest)) := by
  obtain ⟨ws, hP, hD, hf, hs, -⟩ := hw.conv
  obtain ⟨q0, hq⟩ := hf _ _ he
  exact va_zast hexec hb hK hP hD hw.2.2 q0 t0 hq ht hin hdg (fun H1 locs1 hP1 _ hS1 => kk H1 locs1 (hs q0 a _ _ H1 locs1 hq hP1 hS1))
end CYN
