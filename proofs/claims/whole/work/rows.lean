section
-- ===== PART A: goes FIRST, ahead of the names: the tables' words, and 'selects' of the private methods out of them =====
/-- a private method of a class that the tables say can be made, by its rows of tables_1 -/
def lw_okq (q : MethodName × Nat) : Prop := (q.1.cls ≠ "java/lang/invoke/MethodHandle" ∧ q.1.cls ≠ "java/lang/invoke/VarHandle") ∧ Cond.instantiable q.1.cls q.2 ∈ tables_1 ∧ Cond.privateMethod q.1 ∈ tables_1 ∧ Cond.instanceMethod q.1 ∈ tables_1
theorem lw_p0 : lw_okq (⟨"HydrantRows", "needMain", "(I)V"⟩, 8) := ⟨⟨by decide +kernel, by decide +kernel⟩, List.mem_of_getElem? (i := 18) (by decide +kernel), List.mem_of_getElem? (i := 106) (by decide +kernel), List.mem_of_getElem? (i := 107) (by decide +kernel)⟩
theorem lw_p1 : lw_okq (⟨"java/lang/Throwable", "fillInStackTrace", "(I)Ljava/lang/Throwable;"⟩, 6) := ⟨⟨by decide +kernel, by decide +kernel⟩, List.mem_of_getElem? (i := 150) (by decide +kernel), List.mem_of_getElem? (i := 148) (by decide +kernel), List.mem_of_getElem? (i := 149) (by decide +kernel)⟩
theorem lw_p2 : lw_okq (⟨"HydrantRows", "known", "(I)LHydrantRows$Hydrant;"⟩, 8) := ⟨⟨by decide +kernel, by decide +kernel⟩, List.mem_of_getElem? (i := 18) (by decide +kernel), List.mem_of_getElem? (i := 288) (by decide +kernel), List.mem_of_getElem? (i := 289) (by decide +kernel)⟩
theorem lw_p3 : lw_okq (⟨"HydrantRows", "limitOf", "(I)I"⟩, 8) := ⟨⟨by decide +kernel, by decide +kernel⟩, List.mem_of_getElem? (i := 18) (by decide +kernel), List.mem_of_getElem? (i := 532) (by decide +kernel), List.mem_of_getElem? (i := 533) (by decide +kernel)⟩
theorem lw_p4 : lw_okq (⟨"HydrantRows", "supplyOfMain", "(IIIIII)I"⟩, 8) := ⟨⟨by decide +kernel, by decide +kernel⟩, List.mem_of_getElem? (i := 18) (by decide +kernel), List.mem_of_getElem? (i := 545) (by decide +kernel), List.mem_of_getElem? (i := 546) (by decide +kernel)⟩
theorem lw_p5 : lw_okq (⟨"HydrantRows$Walk", "goOn", "(IIIII)V"⟩, 5) := ⟨⟨by decide +kernel, by decide +kernel⟩, List.mem_of_getElem? (i := 44) (by decide +kernel), List.mem_of_getElem? (i := 583) (by decide +kernel), List.mem_of_getElem? (i := 584) (by decide +kernel)⟩
theorem lw_p6 : lw_okq (⟨"HydrantRows$Walk", "keepWay", "(I)V"⟩, 5) := ⟨⟨by decide +kernel, by decide +kernel⟩, List.mem_of_getElem? (i := 44) (by decide +kernel), List.mem_of_getElem? (i := 588) (by decide +kernel), List.mem_of_getElem? (i := 589) (by decide +kernel)⟩
theorem lw_p7 : lw_okq (⟨"HydrantRowsModel", "goes", "(ZZZZ)Z"⟩, 23) := ⟨⟨by decide +kernel, by decide +kernel⟩, List.mem_of_getElem? (i := 639) (by decide +kernel), List.mem_of_getElem? (i := 732) (by decide +kernel), List.mem_of_getElem? (i := 733) (by decide +kernel)⟩
theorem lw_p8 : lw_okq (⟨"HydrantRowsModel", "isHydrant", "(I)Z"⟩, 23) := ⟨⟨by decide +kernel, by decide +kernel⟩, List.mem_of_getElem? (i := 639) (by decide +kernel), List.mem_of_getElem? (i := 751) (by decide +kernel), List.mem_of_getElem? (i := 752) (by decide +kernel)⟩
theorem lw_p9 : lw_okq (⟨"HydrantRowsModel", "counts", "(I)I"⟩, 23) := ⟨⟨by decide +kernel, by decide +kernel⟩, List.mem_of_getElem? (i := 639) (by decide +kernel), List.mem_of_getElem? (i := 766) (by decide +kernel), List.mem_of_getElem? (i := 767) (by decide +kernel)⟩
theorem lw_p10 : lw_okq (⟨"HydrantRowsModel", "canTell", "(II)Z"⟩, 23) := ⟨⟨by decide +kernel, by decide +kernel⟩, List.mem_of_getElem? (i := 639) (by decide +kernel), List.mem_of_getElem? (i := 770) (by decide +kernel), List.mem_of_getElem? (i := 771) (by decide +kernel)⟩
theorem lw_p11 : lw_okq (⟨"HydrantRowsModel", "down", "(II)I"⟩, 23) := ⟨⟨by decide +kernel, by decide +kernel⟩, List.mem_of_getElem? (i := 639) (by decide +kernel), List.mem_of_getElem? (i := 774) (by decide +kernel), List.mem_of_getElem? (i := 775) (by decide +kernel)⟩
theorem lw_p12 : lw_okq (⟨"HydrantRowsModel", "up", "(II)I"⟩, 23) := ⟨⟨by decide +kernel, by decide +kernel⟩, List.mem_of_getElem? (i := 639) (by decide +kernel), List.mem_of_getElem? (i := 778) (by decide +kernel), List.mem_of_getElem? (i := 779) (by decide +kernel)⟩
theorem lw_p13 : lw_okq (⟨"HydrantRowsModel", "isUsable", "(II)Z"⟩, 23) := ⟨⟨by decide +kernel, by decide +kernel⟩, List.mem_of_getElem? (i := 639) (by decide +kernel), List.mem_of_getElem? (i := 802) (by decide +kernel), List.mem_of_getElem? (i := 803) (by decide +kernel)⟩
theorem lw_p14 : lw_okq (⟨"HydrantRowsModel", "hose", "(III)I"⟩, 23) := ⟨⟨by decide +kernel, by decide +kernel⟩, List.mem_of_getElem? (i := 639) (by decide +kernel), List.mem_of_getElem? (i := 810) (by decide +kernel), List.mem_of_getElem? (i := 811) (by decide +kernel)⟩
theorem lw_p15 : lw_okq (⟨"HydrantRowsModel", "whole", "(II)I"⟩, 23) := ⟨⟨by decide +kernel, by decide +kernel⟩, List.mem_of_getElem? (i := 639) (by decide +kernel), List.mem_of_getElem? (i := 821) (by decide +kernel), List.mem_of_getElem? (i := 822) (by decide +kernel)⟩
def lw_privs_1 : List (MethodName × Nat) := [(⟨"HydrantRows", "needMain", "(I)V"⟩, 8), (⟨"java/lang/Throwable", "fillInStackTrace", "(I)Ljava/lang/Throwable;"⟩, 6), (⟨"HydrantRows", "known", "(I)LHydrantRows$Hydrant;"⟩, 8), (⟨"HydrantRows", "limitOf", "(I)I"⟩, 8), (⟨"HydrantRows", "supplyOfMain", "(IIIIII)I"⟩, 8), (⟨"HydrantRows$Walk", "goOn", "(IIIII)V"⟩, 5), (⟨"HydrantRows$Walk", "keepWay", "(I)V"⟩, 5), (⟨"HydrantRowsModel", "goes", "(ZZZZ)Z"⟩, 23), (⟨"HydrantRowsModel", "isHydrant", "(I)Z"⟩, 23), (⟨"HydrantRowsModel", "counts", "(I)I"⟩, 23), (⟨"HydrantRowsModel", "canTell", "(II)Z"⟩, 23), (⟨"HydrantRowsModel", "down", "(II)I"⟩, 23), (⟨"HydrantRowsModel", "up", "(II)I"⟩, 23), (⟨"HydrantRowsModel", "isUsable", "(II)Z"⟩, 23), (⟨"HydrantRowsModel", "hose", "(III)I"⟩, 23), (⟨"HydrantRowsModel", "whole", "(II)I"⟩, 23)]
theorem lw_r1 : ∀ q ∈ lw_privs_1, lw_okq q := List.forall_mem_cons.mpr ⟨lw_p0, List.forall_mem_cons.mpr ⟨lw_p1, List.forall_mem_cons.mpr ⟨lw_p2, List.forall_mem_cons.mpr ⟨lw_p3, List.forall_mem_cons.mpr ⟨lw_p4, List.forall_mem_cons.mpr ⟨lw_p5, List.forall_mem_cons.mpr ⟨lw_p6, List.forall_mem_cons.mpr ⟨lw_p7, List.forall_mem_cons.mpr ⟨lw_p8, List.forall_mem_cons.mpr ⟨lw_p9, List.forall_mem_cons.mpr ⟨lw_p10, List.forall_mem_cons.mpr ⟨lw_p11, List.forall_mem_cons.mpr ⟨lw_p12, List.forall_mem_cons.mpr ⟨lw_p13, List.forall_mem_cons.mpr ⟨lw_p14, List.forall_mem_cons.mpr ⟨lw_p15, fun _ h => absurd h List.not_mem_nil⟩⟩⟩⟩⟩⟩⟩⟩⟩⟩⟩⟩⟩⟩⟩⟩
theorem lw_p16 : lw_okq (⟨"HydrantRowsModel", "arranges", "(II)Z"⟩, 23) := ⟨⟨by decide +kernel, by decide +kernel⟩, List.mem_of_getElem? (i := 639) (by decide +kernel), List.mem_of_getElem? (i := 834) (by decide +kernel), List.mem_of_getElem? (i := 835) (by decide +kernel)⟩
theorem lw_p17 : lw_okq (⟨"HydrantRowsModel", "metres", "(I)I"⟩, 23) := ⟨⟨by decide +kernel, by decide +kernel⟩, List.mem_of_getElem? (i := 639) (by decide +kernel), List.mem_of_getElem? (i := 838) (by decide +kernel), List.mem_of_getElem? (i := 839) (by decide +kernel)⟩
theorem lw_p18 : lw_okq (⟨"HydrantRowsModel", "isAhead", "(I)Z"⟩, 23) := ⟨⟨by decide +kernel, by decide +kernel⟩, List.mem_of_getElem? (i := 639) (by decide +kernel), List.mem_of_getElem? (i := 842) (by decide +kernel), List.mem_of_getElem? (i := 843) (by decide +kernel)⟩
theorem lw_p19 : lw_okq (⟨"HydrantRowsModel", "late", "(III)I"⟩, 23) := ⟨⟨by decide +kernel, by decide +kernel⟩, List.mem_of_getElem? (i := 639) (by decide +kernel), List.mem_of_getElem? (i := 854) (by decide +kernel), List.mem_of_getElem? (i := 855) (by decide +kernel)⟩
def lw_privs_2 : List (MethodName × Nat) := [(⟨"HydrantRowsModel", "arranges", "(II)Z"⟩, 23), (⟨"HydrantRowsModel", "metres", "(I)I"⟩, 23), (⟨"HydrantRowsModel", "isAhead", "(I)Z"⟩, 23), (⟨"HydrantRowsModel", "late", "(III)I"⟩, 23)]
theorem lw_r2 : ∀ q ∈ lw_privs_2, lw_okq q := List.forall_mem_cons.mpr ⟨lw_p16, List.forall_mem_cons.mpr ⟨lw_p17, List.forall_mem_cons.mpr ⟨lw_p18, List.forall_mem_cons.mpr ⟨lw_p19, fun _ h => absurd h List.not_mem_nil⟩⟩⟩⟩
def lw_privs : List (MethodName × Nat) := lw_privs_1 ++ (lw_privs_2)
def lw_tbl : List Cond := k2_sels lw_privs ++ tables_1
theorem lw_privs_ok : ∀ q ∈ lw_privs, lw_okq q := by
  show ∀ q ∈ lw_privs_1 ++ (lw_privs_2), lw_okq q
  exact List.forall_mem_append.mpr ⟨lw_r1, lw_r2⟩
end
section
/-! ===== BEGIN words of one list among another's, by their places ===== -/
theorem goodIn_r {big : List Cond} (ws : List Cond) (ps : List Nat) (hp : ws = ps.filterMap (fun i => big[i]?)) (h : ws.all goodWord = true) : GoodIn big ws := by
  intro w hw
  have h1 := List.all_eq_true.mp h w hw
  rw [hp] at hw
  obtain ⟨i, -, hi⟩ := List.mem_filterMap.mp hw
  have hm : w ∈ big := by first | exact List.mem_of_getElem? hi | exact List.getElem?_mem hi
  exact ⟨hm, good_of_word h1⟩
theorem goodIn_app {big a b : List Cond} (ha : GoodIn big a) (hb : GoodIn big b) : GoodIn big (a ++ b) := fun w h => (List.mem_append.mp h).elim (ha w) (hb w)
theorem goodIn_ca {big a b : List Cond} {c : Cond} (ha : GoodIn big (c :: a)) (hb : GoodIn big b) : GoodIn big (c :: (a ++ b)) := fun w h => (List.mem_cons.mp h).elim (fun e => ha w (List.mem_cons.mpr (Or.inl e))) (fun h => (List.mem_append.mp h).elim (fun h => ha w (List.mem_cons.mpr (Or.inr h))) (hb w))
theorem goodIn_sub {big ws : List Cond} (hm : ∀ w ∈ ws, w ∈ big) (h : ws.all goodWord = true) : GoodIn big ws := fun w hw => ⟨hm w hw, good_of_word (List.all_eq_true.mp h w hw)⟩
/-! ===== END ===== -/

/-! ===== BEGIN exceptions that leave a method, and their catching by the caller (launches without stack traces) ===== -/
section VXA
/-! The laws vx_back, vx_callV, vx_callS, vx_callSW, vx_throw0, vx_throwS follow proofs of the library, with one case more: JvmDerived/Free/Laws.lean (Back.of_free), Shelf42/LK1.lean (callV, callS), Shelf/KitTraced.lean (throwNew0V, throwNewS). -/
/-- where a method has thrown q: the class by its name, the cell, what was written, the world -/
def vx_T (XC : String → State → State → Prop) (st : State) (q : Addr) (t : State) (mc ms : Nat) (free : Addr → Prop) : Prop :=
  ∃ (E : String) (ce : Cell) (L : List Loc), XC E st t ∧ t.heap[q]? = some ce ∧ ce.vm = .none ∧ st.vm.findClass E = some ce.cls ∧ st.WarmedH t.vm ∧ st.sameButNew ({ t with vm := st.vm } : State) L mc ms ∧ ∀ z ∈ L, free z.base
def vx_Q (Qc : Array Value → State → Outcome → State → Prop) (XC : String → State → State → Prop) (mc ms : Nat) (free : Addr → Prop) : Array Value → State → Outcome → State → Prop := fun a st o t =>
  (Qc a st o t ∧ ∃ L, FrameEnd st o t L mc ms ∧ ∀ q ∈ L, free q.base) ∨ ∃ q, o = .threw q ∧ vx_T XC st q t mc ms free
/-- a callee that returns or throws -/
def vx_Met (l : Launch) (y : MethodName) (ws : List Cond) (rm : Room) (Pc : Array Value → State → Prop) (Qc : Array Value → State → Outcome → State → Prop) (XC : String → State → State → Prop) (mc ms : Nat) (free : Addr → Prop) : Prop :=
  MetFree l y (headSpec ws rm) Pc (fun _ _ _ _ _ => True) (vx_Q Qc XC mc ms free)
def vx_Post (XC : String → State → State → Prop) (mc ms : Nat) (free : Addr → Prop) : Pt → Array Value → Addr → Pt → Prop := fun A a q B =>
  ∃ (g : JFrame) (mk : MethodId) (t : State) (L : List Loc) (E : String) (ce : Cell), B.U.heap = t.heap ∧ B.U.vm = t.vm ∧ XC E (A.U.calling g mk a) t ∧ t.heap[q]? = some ce ∧ ce.vm = .none ∧ A.U.vm.findClass E = some ce.cls ∧ B.locs = A.locs ++ L ∧ (∀ z ∈ L, free z.base) ∧ B.cells = A.cells + mc ∧ B.slots = A.slots + ms
def vx_Back (l : Launch) (R : Room) (p : Program) (e : Env) (below : List Frame) (s : State) (sargs : Array Value) (y : MethodName) (len W9 : Nat)
    (Pre : Pt → Array Value → Prop) (Post : Pt → Array Value → Option Value → Pt → Prop) (PostX : Pt → Array Value → Addr → Pt → Prop) : Prop :=
  ∀ (m : MethodId) (meth : Method) (c : Code) (A : Pt) (g : JFrame) (ig : Instr) (mk : MethodId) (a : Array Value),
    Stand p l e R s m sargs below meth c A.U A.locs A.cells A.slots → g.method = m → g.locals.size = c.maxLocals → decode c.code g.pc = .ok (ig, len) →
    2 * g.monitorRoom + (g.stack.map fun v => v.category).sum ≤ W9 → A.U.methodNamed? y = some mk → Pre A a →
    (∃ (v : Option Value) (B : Pt), Stand p l e R s m sargs below meth c B.U B.locs B.cells B.slots ∧ Post A a v B ∧
      Steps p.tables e below (doInvoke e (A.U.setTop g) [] mk a).1 (B.U.setTop { g with pc := g.pc + len, stack := v.toList ++ g.stack })) ∨
    (∃ (q : Addr) (B : Pt), Stand p l e R s m sargs below meth c B.U B.locs B.cells B.slots ∧ PostX A a q B ∧
      Steps p.tables e below (doInvoke e (A.U.setTop g) [] mk a).1 ((B.U.setTop g).pushFrame (.throwing q)))
section Payer
variable {l : Launch} {R : Room} {p : Program} {e : Env} {below : List Frame} {s : State} {sargs : Array Value} {y : MethodName} {len W9 : Nat}
theorem vx_back {ws : List Cond} {rm : Room} {Pc : Array Value → State → Prop} {Qc : Array Value → State → Outcome → State → Prop} {XC : String → State → State → Prop} {mc ms : Nat} {free : Addr → Prop} {bytes : ByteArray} {maxL : Nat} {ret : Option FieldType}
    (hM : vx_Met l y ws rm Pc Qc XC mc ms free) (hblind : FrameBlind Pc) (hrc : rm.cells = mc) (hrs : rm.slots = ms)
    (hframes : rm.frames + 1 ≤ R.frames) (hlocals : W9 + (maxL + 11) + rm.locals ≤ R.locals)
    (hws : ∀ w ∈ ws, ∀ a' U, s.WarmedH U.vm → w.before a' U = true) (hcode : Cond.code y bytes maxL ret ∈ ws) (hinit : ∀ a' U, s.WarmedH U.vm → (Cond.initialized y.cls).before a' U = true) :
    vx_Back l R p e below s sargs y len W9 (PreOf R mc ms Pc) (PostOf Qc mc ms free) (vx_Post XC mc ms free) := by
  intro m meth c A g ig mk a X hg hsize hdg hW hn hp
  have h1 : (headSpec ws rm).pre.before a A.U = true := atoms_intro fun w hw => hws w hw _ _ X.warmed
  have h2 : (Cond.code y bytes maxL ret).before a A.U = true := hws _ hcode _ _ X.warmed
  have h3 : (Cond.initialized y.cls).before a A.U = true := hinit _ _ X.warmed
  have h4 : A.cells + (headSpec ws rm).room.cells ≤ R.cells := by rw [show (headSpec ws rm).room.cells = mc from hrc]; exact hp.1
  have h5 : A.slots + (headSpec ws rm).room.slots ≤ R.slots := by rw [show (headSpec ws rm).room.slots = ms from hrs]; exact hp.2.1
  have hPc : Pc a (A.U.calling g mk a) := hblind _ _ _ _ hp.2.2
  obtain ⟨U, Ls, c0, s0⟩ := A
  dsimp only [Pt.U, Pt.locs, Pt.cells, Pt.slots] at h1 h2 h3 h4 h5 X hn hPc ⊢
  obtain ⟨methY, cY, hmY, hcY, -, hlY, -, -, -, -⟩ := Cond.code_spec hn h2
  obtain ⟨kY, hkY, -⟩ := className_of_methodNamed hn
  have hinitY : kY.init = .initialized := Cond.initialized_spec (findClass_of_methodNamed hn) hkY h3
  have h : At U g.method c below := by rw [hg]; exact X.here
  have hlocals9 : W9 + (maxL + 11) + (headSpec ws rm).room.locals ≤ R.locals := hlocals
  have happ : (headSpec ws rm).appliesLoose y e.platform (U.calling g mk a) = true :=
    Spec.appliesLoose_calling (g := g) h hdg hn hkY hinitY
      (X.room_calling (g := g) (R' := (headSpec ws rm).room) hsize hmY hcY hframes (by rw [hlY]; omega) h4 h5) h1
  obtain ⟨mid, hmid⟩ := h.above
  have hfr : (U.setTop g).frames = (.java g :: mid) ++ below := by rw [State.frames_setTop' g h.top, hmid]; rfl
  obtain ⟨o, s₂, hsteps, -, hend, hq⟩ := Steps.callFree hM p X.admits X.cas X.clock (acts := []) hfr happ hPc trivial
  have hq' : vx_Q Qc XC mc ms free a (U.calling g mk a) o s₂ := hq
  rw [State.frames_setTop' g h.top] at hend
  obtain ⟨g₀, hg0⟩ := Option.isSome_iff_exists.mp h.top
  obtain ⟨r, hr⟩ := State.topJava?_eq_some.mp hg0
  have hr' : (({ U with heap := s₂.heap, slotsUsed := s₂.slotsUsed } : State).setVm s₂.vm).frames = .java g₀ :: r := hr
  rcases hq' with ⟨hqc, L, hfe, hL⟩ | ⟨q, rfl, E, ce, L, hx, hce, hcv, hcl, hW₂, hsm, hL⟩
  · obtain ⟨⟨v, rfl⟩, hW₂, e2, q2, q3, q4, q5, q6⟩ := id hfe
    have e3 : s₂ = ({ (U.calling g mk a).setFrames s₂.frames with heap := s₂.heap, slotsUsed := s₂.slotsUsed } : State).setVm s₂.vm := by
      have : s₂ = ({ s₂ with vm := (U.calling g mk a).vm } : State).setVm s₂.vm := rfl
      rw [e2] at this
      exact this
    obtain ⟨c₂, i₂, len₂, hc₂, hd₂, hf₂⟩ := hend
    have hW' : U.WarmedH s₂.vm := hW₂
    have hcc : c₂ = c := by
      have h1 : s₂.code? g.method = U.code? g.method := by
        rw [State.code?_eq, State.code?_eq, hW'.alike.method?]
      exact Option.some.inj (hc₂.symm.trans (h1.trans h.code))
    subst hcc
    have hlen : len₂ = len := by rw [hdg] at hd₂; cases hd₂; rfl
    subst hlen
    have hs₂ : s₂ = (({ U with heap := s₂.heap, slotsUsed := s₂.slotsUsed } : State).setVm s₂.vm).setTop { g with pc := g.pc + len₂, stack := v.toList ++ g.stack } := by
      refine e3.trans ?_
      rw [hf₂, State.calling_eq h.top, State.setFrames_setFrames, State.setTop_of_frames _ hr', hr]
      rfl
    have hsame : U.sameButNew ({ U with heap := s₂.heap, slotsUsed := s₂.slotsUsed } : State) L mc ms := by
      refine ⟨?_, q2, q3, q4, q5, q6⟩
      obtain ⟨t, ht, -⟩ := State.frames_cons hr
      show ({ U with heap := s₂.heap, slotsUsed := s₂.slotsUsed } : State) = { U.setFrames U.frames with heap := s₂.heap, slotsUsed := s₂.slotsUsed }
      rw [State.setFrames_self ht]
    subst hg
    refine Or.inl ⟨v, ⟨(({ U with heap := s₂.heap, slotsUsed := s₂.slotsUsed } : State).setVm s₂.vm), Ls ++ L, c0 + mc, s0 + ms⟩,
      ⟨X.admits, X.cas, X.clock, X.frames, X.room, X.hears, X.method, X.code, (X.here.setHeapUsed s₂.heap s₂.slotsUsed).setVm hW'.alike, X.tail, State.WarmedH.trans X.warmed hW', X.limits, X.bytes, X.same.trans (hsame.setVm s.vm)⟩,
      ⟨g, mk, s₂, L, rfl, rfl, hqc, rfl, hL, rfl, rfl⟩, ?_⟩
    show Steps p.tables e below _ ((({ U with heap := s₂.heap, slotsUsed := s₂.slotsUsed } : State).setVm s₂.vm).setTop { g with pc := g.pc + len₂, stack := v.toList ++ g.stack })
    rw [← hs₂]
    exact hsteps
  · obtain ⟨e2, q2, q3, q4, q5, q6⟩ := id hsm
    have e3 : s₂ = ({ (U.calling g mk a).setFrames s₂.frames with heap := s₂.heap, slotsUsed := s₂.slotsUsed } : State).setVm s₂.vm := by
      have : s₂ = ({ s₂ with vm := (U.calling g mk a).vm } : State).setVm s₂.vm := rfl
      rw [e2] at this
      exact this
    have hf₂ : s₂.frames = .throwing q :: .java g :: U.frames.tail := hend
    have hW' : U.WarmedH s₂.vm := hW₂
    have hs₂ : s₂ = ((({ U with heap := s₂.heap, slotsUsed := s₂.slotsUsed } : State).setVm s₂.vm).setTop g).pushFrame (.throwing q) := by
      refine e3.trans ?_
      rw [hf₂, State.calling_eq h.top, State.setFrames_setFrames, State.pushFrame, State.frames_setTop _ hr', State.setTop_of_frames _ hr', State.setFrames_setFrames, hr]
      rfl
    have hsame : U.sameButNew ({ U with heap := s₂.heap, slotsUsed := s₂.slotsUsed } : State) L mc ms := by
      refine ⟨?_, q2, q3, q4, q5, q6⟩
      obtain ⟨t, ht, -⟩ := State.frames_cons hr
      show ({ U with heap := s₂.heap, slotsUsed := s₂.slotsUsed } : State) = { U.setFrames U.frames with heap := s₂.heap, slotsUsed := s₂.slotsUsed }
      rw [State.setFrames_self ht]
    subst hg
    refine Or.inr ⟨q, ⟨(({ U with heap := s₂.heap, slotsUsed := s₂.slotsUsed } : State).setVm s₂.vm), Ls ++ L, c0 + mc, s0 + ms⟩,
      ⟨X.admits, X.cas, X.clock, X.frames, X.room, X.hears, X.method, X.code, (X.here.setHeapUsed s₂.heap s₂.slotsUsed).setVm hW'.alike, X.tail, State.WarmedH.trans X.warmed hW', X.limits, X.bytes, X.same.trans (hsame.setVm s.vm)⟩,
      ⟨g, mk, s₂, L, E, ce, rfl, rfl, hx, hce, hcv, hcl, rfl, hL, rfl, rfl⟩, ?_⟩
    show Steps p.tables e below _ (((({ U with heap := s₂.heap, slotsUsed := s₂.slotsUsed } : State).setVm s₂.vm).setTop g).pushFrame (.throwing q))
    rw [← hs₂]
    exact hsteps
end Payer
section Calls
variable {p : Program} {l : Launch} {e : Env} {R : Room} {s : State} {m : MethodId} {args : Array Value} {below : List Frame} {meth : Method} {c : Code} {T : State} {locs : List Loc} {cells slots : Nat}
theorem vx_callV (X : Stand p l e R s m args below meth c T locs cells slots) (hexec : p.tables.exec = Jvm.exec) {own C : String} {index : Nat} {y : MethodName} {bytes : ByteArray} {maxL : Nat} {ret : Option FieldType}
    (hown : s.vm.findClass own = some m.cls) (hlink : (Cond.methodLink own index y).before args s = true) (hinst : (Cond.instanceMethod y).before args s = true) (hsel : (Cond.selects C y y).before args s = true)
    (hcode : (Cond.code y bytes maxL ret).before args s = true) (hy : y.cls ≠ "java/lang/invoke/MethodHandle" ∧ y.cls ≠ "java/lang/invoke/VarHandle")
    {W9 : Nat} {Pre : Pt → Array Value → Prop} {Post : Pt → Array Value → Option Value → Pt → Prop} {PostX : Pt → Array Value → Addr → Pt → Prop} (hK : vx_Back l R p e below s args y 3 W9 Pre Post PostX)
    {b : Addr} {cellB : Cell} (hcell : T.heap[b]? = some cellB) (hobj : cellB.vm.isStatics = false) (hcls : s.vm.findClass C = some cellB.cls)
    {g : JFrame} (hg : g.method = m) (hsize : g.locals.size = c.maxLocals) {argsL rest : List Value} (hlen : ∀ sig, parseMethodDescriptor y.desc = some sig → argsL.length = sig.parameters.length)
    (hstack : g.stack = argsL.reverse ++ .ref b :: rest) (hW : 2 * g.monitorRoom + (rest.map fun v => v.category).sum ≤ W9) (hdg : decode c.code g.pc = .ok (.invokevirtual index, 3))
    (hpre : ∀ vm₁, s.WarmedH vm₁ → Pre ⟨T.setVm vm₁, locs, cells, slots⟩ (Value.ref b :: argsL).toArray) :
    (∃ (v : Option Value) (vm₁ : Vm) (B : Pt), s.WarmedH vm₁ ∧ Stand p l e R s m args below meth c B.U B.locs B.cells B.slots ∧ Post ⟨T.setVm vm₁, locs, cells, slots⟩ (Value.ref b :: argsL).toArray v B ∧
      ∀ target, Steps p.tables e below (B.U.setTop { g with pc := g.pc + 3, stack := v.toList ++ rest }) target → Steps p.tables e below (T.setTop g) target) ∨
    (∃ (q : Addr) (vm₁ : Vm) (B : Pt), s.WarmedH vm₁ ∧ Stand p l e R s m args below meth c B.U B.locs B.cells B.slots ∧ PostX ⟨T.setVm vm₁, locs, cells, slots⟩ (Value.ref b :: argsL).toArray q B ∧
      Steps p.tables e below (T.setTop g) ((B.U.setTop { g with stack := rest }).pushFrame (.throwing q))) := by
  obtain ⟨mk, methM, hnamed, hmethM, hstM, habM⟩ := Cond.instanceMethod_spec hinst
  obtain ⟨methM', cM, hmethM', -, -, -, -, -, -, hsigM⟩ := Cond.code_spec hnamed hcode
  cases hmethM.symm.trans hmethM'
  obtain ⟨c2, r2, m2, q1, q2, q3, q4, kP, hkP, hkPi⟩ := Cond.selects_spec hsel
  cases hcls.symm.trans q1
  cases (State.methodFound?_of_named hnamed hy).symm.trans q2
  cases hnamed.symm.trans q3
  have hselP : selectMethod e.platform s.vm cellB.cls mk = .method mk := by rw [Launch.admits_selectMethod X.admits]; exact q4
  obtain ⟨vm₁, X₁, hstep₁⟩ := X.invokevirtual hexec hown hlink hnamed hmethM hstM hkP hkPi hy (a := b) (cell := cellB) hcell
    (fun z h => by rw [h] at hobj; cases hobj) hselP hmethM habM hkP hkPi (g := g) hg (argsL := argsL) (rest := rest) (hlen _ hsigM) hstack hdg
  rcases hK m meth c ⟨T.setVm vm₁, locs, cells, slots⟩ { g with stack := rest } (.invokevirtual index) mk (Value.ref b :: argsL).toArray X₁ hg hsize hdg hW (X₁.named hnamed) (hpre vm₁ X₁.warmed) with ⟨v, B, X', hpost, hsteps⟩ | ⟨q, B, X', hpost, hsteps⟩
  · exact Or.inl ⟨v, vm₁, B, X₁.warmed, X', hpost, fun target h => hstep₁ _ fun acts => by rw [doInvoke_state]; exact hsteps.trans h⟩
  · exact Or.inr ⟨q, vm₁, B, X₁.warmed, X', hpost, hstep₁ _ fun acts => by rw [doInvoke_state]; exact hsteps⟩
theorem vx_callS (X : Stand p l e R s m args below meth c T locs cells slots) (hexec : p.tables.exec = Jvm.exec) {own : String} {index : Nat} {y : MethodName} {bytes : ByteArray} {maxL : Nat} {ret : Option FieldType}
    (hown : s.vm.findClass own = some m.cls) (hlink : (Cond.methodLink own index y).before args s = true) (hstat : (Cond.static y).before args s = true) (hinit : (Cond.initialized y.cls).before args s = true)
    (hcode : (Cond.code y bytes maxL ret).before args s = true) (hy : y.cls ≠ "java/lang/invoke/MethodHandle" ∧ y.cls ≠ "java/lang/invoke/VarHandle")
    {W9 : Nat} {Pre : Pt → Array Value → Prop} {Post : Pt → Array Value → Option Value → Pt → Prop} {PostX : Pt → Array Value → Addr → Pt → Prop} (hK : vx_Back l R p e below s args y 3 W9 Pre Post PostX)
    {g : JFrame} (hg : g.method = m) (hsize : g.locals.size = c.maxLocals) {argsL rest : List Value} (hlen : ∀ sig, parseMethodDescriptor y.desc = some sig → argsL.length = sig.parameters.length)
    (hstack : g.stack = argsL.reverse ++ rest) (hW : 2 * g.monitorRoom + (rest.map fun v => v.category).sum ≤ W9) (hdg : decode c.code g.pc = .ok (.invokestatic index, 3))
    (hpre : ∀ vm₁, s.WarmedH vm₁ → Pre ⟨T.setVm vm₁, locs, cells, slots⟩ argsL.toArray) :
    (∃ (v : Option Value) (vm₁ : Vm) (B : Pt), s.WarmedH vm₁ ∧ Stand p l e R s m args below meth c B.U B.locs B.cells B.slots ∧ Post ⟨T.setVm vm₁, locs, cells, slots⟩ argsL.toArray v B ∧
      ∀ target, Steps p.tables e below (B.U.setTop { g with pc := g.pc + 3, stack := v.toList ++ rest }) target → Steps p.tables e below (T.setTop g) target) ∨
    (∃ (q : Addr) (vm₁ : Vm) (B : Pt), s.WarmedH vm₁ ∧ Stand p l e R s m args below meth c B.U B.locs B.cells B.slots ∧ PostX ⟨T.setVm vm₁, locs, cells, slots⟩ argsL.toArray q B ∧
      Steps p.tables e below (T.setTop g) ((B.U.setTop { g with stack := rest }).pushFrame (.throwing q))) := by
  obtain ⟨mk, hnamed⟩ := Cond.code_named hcode
  obtain ⟨methM, cM, hmethM, -, -, -, -, -, -, hsigM⟩ := Cond.code_spec hnamed hcode
  have hstatic : methM.isStatic = true := Cond.static_spec hnamed hmethM hstat
  obtain ⟨kP, hkP, -⟩ := className_of_methodNamed hnamed
  have hinitP : kP.init = .initialized := Cond.initialized_spec (findClass_of_methodNamed hnamed) hkP hinit
  obtain ⟨vm₁, X₁, hstep₁⟩ := X.invokestatic hexec hown hlink hnamed hmethM hstatic hkP hinitP hy (g := g) hg (argsL := argsL) (rest := rest) (hlen _ hsigM) hstack hdg
  rcases hK m meth c ⟨T.setVm vm₁, locs, cells, slots⟩ { g with stack := rest } (.invokestatic index) mk argsL.toArray X₁ hg hsize hdg hW (X₁.named hnamed) (hpre vm₁ X₁.warmed) with ⟨v, B, X', hpost, hsteps⟩ | ⟨q, B, X', hpost, hsteps⟩
  · exact Or.inl ⟨v, vm₁, B, X₁.warmed, X', hpost, fun target h => hstep₁ _ fun acts => by rw [doInvoke_state]; exact hsteps.trans h⟩
  · exact Or.inr ⟨q, vm₁, B, X₁.warmed, X', hpost, hstep₁ _ fun acts => by rw [doInvoke_state]; exact hsteps⟩
end Calls
theorem vx_cls {s : State} {T : State} {vm₁ : Vm} {E : String} {k : ClassId} (hW : s.WarmedH vm₁) (h : (T.setVm vm₁).vm.findClass E = some k) : s.vm.findClass E = some k := by
  have h1 : vm₁.findClass E = some k := h
  rw [hW.alike.findClass] at h1
  exact h1
/-- the method's frame g, with q thrown over it -/
def vx_W (p : Program) (l : Launch) (e : Env) (R : Room) (s : State) (m : MethodId) (args : Array Value) (below : List Frame) (meth : Method) (c : Code) (H : Heap) (locs : List Loc) (cells slots : Nat) (Q : State → Prop) (g : JFrame) (q : Addr) : Prop :=
  ∀ T : State, T.heap = H → Stand p l e R s m args below meth c T locs cells slots → ∃ t, Steps p.tables e below ((T.setTop g).pushFrame (.throwing q)) t ∧ Q t
def vx_Run (p : Program) (l : Launch) (e : Env) (R : Room) (s : State) (m : MethodId) (args : Array Value) (below : List Frame) (meth : Method) (c : Code) (H : Heap) (locs : List Loc) (cells slots mc ms : Nat) (g : JFrame) (rest : List Value) (Qa : State → Outcome → State → Prop) (XC : String → State → State → Prop) (free : Addr → Prop) : Prop :=
  ∀ T : State, T.heap = H → Stand p l e R s m args below meth c T locs cells slots →
    (∃ (v : Option Value) (st₀ t T' : State) (L : List Loc), st₀.heap = H ∧ Stand p l e R s m args below meth c T' (locs ++ L) (cells + mc) (slots + ms) ∧ (∀ q ∈ L, free q.base) ∧ T'.heap = t.heap ∧ T'.vm = t.vm ∧ Qa st₀ (.returned v) t ∧
      Goes p e below T g T' { g with pc := g.pc + 3, stack := v.toList ++ rest }) ∨
    (∃ (q : Addr) (st₀ t T' : State) (L : List Loc) (E : String) (ce : Cell), st₀.heap = H ∧ Stand p l e R s m args below meth c T' (locs ++ L) (cells + mc) (slots + ms) ∧ (∀ z ∈ L, free z.base) ∧ T'.heap = t.heap ∧ T'.vm = t.vm ∧ XC E st₀ t ∧ t.heap[q]? = some ce ∧ ce.vm = .none ∧ s.vm.findClass E = some ce.cls ∧
      Steps p.tables e below (T.setTop g) ((T'.setTop { g with stack := rest }).pushFrame (.throwing q)))
def vx_X {S : Type} (px : S → Prop) (B : String → S → State → Prop) (A : Nat → Prop) : String → State → State → Prop := fun E st t => ∃ u : S, px u ∧ B E u t ∧ va_F A st t
section Runs
variable {p : Program} {l : Launch} {e : Env} {R : Room} {s : State} {m : MethodId} {args : Array Value} {below : List Frame} {meth : Method} {c : Code} {H : Heap} {locs : List Loc} {cells slots : Nat}
variable {y : MethodName} {bytes cc : ByteArray} {maxL nL mc ms n index : Nat} {ret : Option FieldType} {ws : List Cond} {rm : Room} {Pc : Array Value → State → Prop} {Qc : Array Value → State → Outcome → State → Prop} {XC : String → State → State → Prop} {free : Addr → Prop} {Ts : List Cond} {own C : String} {b : Addr} {As rest : List Value} {g : JFrame}
theorem vx_callBack (cb : CallB R s args own index y bytes maxL ret ws rm mc ms n) (hM : vx_Met l y ws rm Pc Qc XC mc ms free) (hbl : FrameBlind Pc) : vx_Back l R p e below s args y 3 8 (PreOf R mc ms Pc) (PostOf Qc mc ms free) (vx_Post XC mc ms free) := by
  obtain ⟨hrc, hrs, hfr, hlo, hws, hcw, -, hini, -⟩ := cb
  exact vx_back (bytes := bytes) (maxL := maxL) (ret := ret) hM hbl hrc hrs hfr hlo hws hcw (fun a' U hW => word_at hW (Or.inl (by first | rfl | simp [Cond.onTables, Cond.keeps, Cond.steady])) hini)
theorem vx_runV (S : CallFix p m c cc nL s args Ts own) (hM : vx_Met l y ws rm Pc Qc XC mc ms free) (cw : CallW R s args own C index y bytes maxL ret ws rm mc ms n) (hp : PreV s H C b Pc As)
    (hg : g.method = m) (hn : As.length = n) (hsize : g.locals.size = nL) (hstack : g.stack = As.reverse ++ .ref b :: rest) (hW : 2 * g.monitorRoom + (rest.map fun v => v.category).sum ≤ 8) (hdg : decode cc g.pc = .ok (.invokevirtual index, 3)) (hf : cells + mc ≤ R.cells ∧ slots + ms ≤ R.slots) :
    vx_Run p l e R s m args below meth c H locs cells slots mc ms g rest (Qc (Value.ref b :: As).toArray) XC free := by
  have hK : vx_Back l R p e below s args y 3 8 (PreOf R mc ms Pc) (PostOf Qc mc ms free) (vx_Post XC mc ms free) := vx_callBack cw.1 hM hp.1
  obtain ⟨⟨-, -, -, -, -, -, hcode, -, hy, hlen, hl⟩, hin, hse⟩ := cw
  obtain ⟨hx, hb, hml, ho, -⟩ := S
  obtain ⟨-, ⟨cellB, hcB, hoB, hclB⟩, hPc⟩ := hp
  intro T hT X
  rcases vx_callV X hx (C := C) (bytes := bytes) (maxL := maxL) (ret := ret) ho hl hin hse hcode hy hK (by rw [hT]; exact hcB) hoB hclB hg (hsize.trans hml.symm) (argsL := As) (rest := rest) (fun sig h => hn.trans (hlen sig h)) hstack hW (by rw [hb]; exact hdg)
    (fun vm₁ hW₁ => ⟨hf.1, hf.2, hPc (T.setVm vm₁) hT hW₁⟩) with ⟨v, vm₁, ⟨U', l2, c2, s2⟩, hW₁, X', ⟨g', mk, t, L, e1, e2, hq, h1, hL, h2, h3⟩, st⟩ | ⟨q, vm₁, ⟨U', l2, c2, s2⟩, hW₁, X', ⟨g', mk, t, L, E, ce, e1, e2, hq, hce, hcv, hcl, h1, hL, h2, h3⟩, st⟩
  · dsimp only [Pt.U, Pt.locs, Pt.cells, Pt.slots] at X' e1 e2 h1 h2 h3 st
    subst h1; subst h2; subst h3
    exact Or.inl ⟨v, (T.setVm vm₁).calling g' mk (Value.ref b :: As).toArray, t, U', L, hT, X', hL, e1, e2, hq, st⟩
  · dsimp only [Pt.U, Pt.locs, Pt.cells, Pt.slots] at X' e1 e2 h1 h2 h3 st hcl
    subst h1; subst h2; subst h3
    exact Or.inr ⟨q, (T.setVm vm₁).calling g' mk (Value.ref b :: As).toArray, t, U', L, E, ce, hT, X', hL, e1, e2, hq, hce, hcv, vx_cls hW₁ hcl, st⟩
theorem vx_runS (S : CallFix p m c cc nL s args Ts own) (hM : vx_Met l y ws rm Pc Qc XC mc ms free) (cw : CallB R s args own index y bytes maxL ret ws rm mc ms n ∧ (Cond.static y).before args s = true) (hp : PreS s H Pc As)
    (hg : g.method = m) (hn : As.length = n) (hsize : g.locals.size = nL) (hstack : g.stack = As.reverse ++ rest) (hW : 2 * g.monitorRoom + (rest.map fun v => v.category).sum ≤ 8) (hdg : decode cc g.pc = .ok (.invokestatic index, 3)) (hf : cells + mc ≤ R.cells ∧ slots + ms ≤ R.slots) :
    vx_Run p l e R s m args below meth c H locs cells slots mc ms g rest (Qc As.toArray) XC free := by
  have hK : vx_Back l R p e below s args y 3 8 (PreOf R mc ms Pc) (PostOf Qc mc ms free) (vx_Post XC mc ms free) := vx_callBack cw.1 hM hp.1
  obtain ⟨⟨-, -, -, -, -, -, hcode, hini, hy, hlen, hl⟩, hstt⟩ := cw
  obtain ⟨hx, hb, hml, ho, -⟩ := S
  intro T hT X
  rcases vx_callS X hx (bytes := bytes) (maxL := maxL) (ret := ret) ho hl hstt hini hcode hy hK hg (hsize.trans hml.symm) (argsL := As) (rest := rest) (fun sig h => hn.trans (hlen sig h)) hstack hW (by rw [hb]; exact hdg)
    (fun vm₁ hW₁ => ⟨hf.1, hf.2, hp.2 (T.setVm vm₁) hT hW₁⟩) with ⟨v, vm₁, ⟨U', l2, c2, s2⟩, hW₁, X', ⟨g', mk, t, L, e1, e2, hq, h1, hL, h2, h3⟩, st⟩ | ⟨q, vm₁, ⟨U', l2, c2, s2⟩, hW₁, X', ⟨g', mk, t, L, E, ce, e1, e2, hq, hce, hcv, hcl, h1, hL, h2, h3⟩, st⟩
  · dsimp only [Pt.U, Pt.locs, Pt.cells, Pt.slots] at X' e1 e2 h1 h2 h3 st
    subst h1; subst h2; subst h3
    exact Or.inl ⟨v, (T.setVm vm₁).calling g' mk As.toArray, t, U', L, hT, X', hL, e1, e2, hq, st⟩
  · dsimp only [Pt.U, Pt.locs, Pt.cells, Pt.slots] at X' e1 e2 h1 h2 h3 st hcl
    subst h1; subst h2; subst h3
    exact Or.inr ⟨q, (T.setVm vm₁).calling g' mk As.toArray, t, U', L, E, ce, hT, X', hL, e1, e2, hq, hce, hcv, vx_cls hW₁ hcl, st⟩
end Runs
section Rows
variable {p : Program} {l : Launch} {e : Env} {R : Room} {s : State} {m : MethodId} {args : Array Value} {below : List Frame} {meth : Method} {c : Code} {H : Heap} {locs : List Loc} {cells slots : Nat} {Q : State → Prop}
variable {mc ms : Nat} {free : Addr → Prop} {A0 A1 : Nat → Prop} {H0 : Heap} {a : Array Value} {pc : Nat} {ls : Array Slot} {st0 rest : List Value}
theorem vx_keep {st₀ t T' : State} {L : List Loc} (h0 : st₀.heap = H) (e1 : T'.heap = t.heap) (hS : va_S A0 H0 H locs) (hA : ∀ q, q < H.size → A1 q → A0 q) (hf : ∀ q, free q → A0 q) (hL : ∀ q ∈ L, free q.base) (hF : va_F A1 st₀ t) :
    H.size ≤ T'.heap.size ∧ (∀ q : Nat, q < H.size → ¬ A1 q → T'.heap[q]? = H[q]?) ∧ va_S A0 H0 T'.heap (locs ++ L) := by
  obtain ⟨hz, hk⟩ := hF
  rw [h0] at hz hk
  exact ⟨by rw [e1]; exact hz, fun q h1 h2 => by rw [e1]; exact hk q h1 h2,
    ⟨Nat.le_trans hS.1 (by rw [e1]; exact hz), fun q h1 h2 => by rw [e1, hk q (Nat.lt_of_lt_of_le h1 hS.1) (fun z => h2 (hA q (Nat.lt_of_lt_of_le h1 hS.1) z))]; exact hS.2.1 q h1 h2, fun q hq => by
      rcases List.mem_append.mp hq with h | h
      · exact hS.2.2 q h
      · exact hf _ (hL q h)⟩⟩
theorem vx_calli {S SX : Type} {post : Int32 → S → Prop} {px : SX → Prop} {B : S → State → Prop} {BX : String → SX → State → Prop} {AX : Nat → Prop} (hr : vx_Run p l e R s m args below meth c H locs cells slots mc ms (F0 m pc ls st0) rest (va_Qi post B A1 a) (vx_X px BX AX) free) (hS : va_S A0 H0 H locs) (hA : ∀ q, q < H.size → A1 q → A0 q) (hf : ∀ q, free q → A0 q) (hAX : ∀ q, q < H.size → AX q → A0 q)
    (kx : ∀ (E : String) (ce : Cell) (q9 : Addr) (u : SX) (t : State) (H1 : Heap) (locs1 : List Loc), t.heap = H1 → s.vm.Alike t.vm → px u → BX E u t → H.size ≤ H1.size → (∀ q : Nat, q < H.size → ¬ AX q → H1[q]? = H[q]?) → va_S A0 H0 H1 locs1 → H1[q9]? = some ce → ce.vm = .none → s.vm.findClass E = some ce.cls → vx_W p l e R s m args below meth c H1 locs1 (cells + mc) (slots + ms) Q (F0 m pc ls rest) q9)
    (kk : ∀ (r : Int32) (u : S) (t : State) (H1 : Heap) (locs1 : List Loc), t.heap = H1 → s.vm.Alike t.vm → post r u → B u t → H.size ≤ H1.size → (∀ q : Nat, q < H.size → ¬ A1 q → H1[q]? = H[q]?) → va_S A0 H0 H1 locs1 → W p l e R s m args below meth c H1 locs1 (cells + mc) (slots + ms) Q (F0 m (pc + 3) ls (.int r :: rest))) : W p l e R s m args below meth c H locs cells slots Q (F0 m pc ls st0) := by
  intro T hT X
  rcases hr T hT X with ⟨v, st₀, t, T', L, h0, X', hL, e1, e2, ⟨⟨r, u, hv, hp, hb⟩, hF⟩, st⟩ | ⟨q, st₀, t, T', L, E, ce, h0, X', hL, e1, e2, ⟨u, hp, hb, hF⟩, hce, hcv, hcl, st⟩
  · cases hv
    obtain ⟨k1, k2, k3⟩ := vx_keep h0 e1 hS hA hf hL hF
    obtain ⟨t2, a1, b1⟩ := kk r u t T'.heap (locs ++ L) e1.symm (by rw [← e2]; exact X'.warmed.alike) hp hb k1 k2 k3 T' rfl X'
    exact ⟨t2, st t2 a1, b1⟩
  · obtain ⟨k1, k2, k3⟩ := vx_keep h0 e1 hS hAX hf hL hF
    obtain ⟨t2, a1, b1⟩ := kx E ce q u t T'.heap (locs ++ L) e1.symm (by rw [← e2]; exact X'.warmed.alike) hp hb k1 k2 k3 (by rw [e1]; exact hce) hcv hcl T' rfl X'
    exact ⟨t2, st.trans a1, b1⟩
theorem vx_calll {S SX : Type} {post : Int64 → S → Prop} {px : SX → Prop} {B : S → State → Prop} {BX : String → SX → State → Prop} {AX : Nat → Prop} (hr : vx_Run p l e R s m args below meth c H locs cells slots mc ms (F0 m pc ls st0) rest (va_Ql post B A1 a) (vx_X px BX AX) free) (hS : va_S A0 H0 H locs) (hA : ∀ q, q < H.size → A1 q → A0 q) (hf : ∀ q, free q → A0 q) (hAX : ∀ q, q < H.size → AX q → A0 q)
    (kx : ∀ (E : String) (ce : Cell) (q9 : Addr) (u : SX) (t : State) (H1 : Heap) (locs1 : List Loc), t.heap = H1 → s.vm.Alike t.vm → px u → BX E u t → H.size ≤ H1.size → (∀ q : Nat, q < H.size → ¬ AX q → H1[q]? = H[q]?) → va_S A0 H0 H1 locs1 → H1[q9]? = some ce → ce.vm = .none → s.vm.findClass E = some ce.cls → vx_W p l e R s m args below meth c H1 locs1 (cells + mc) (slots + ms) Q (F0 m pc ls rest) q9)
    (kk : ∀ (r : Int64) (u : S) (t : State) (H1 : Heap) (locs1 : List Loc), t.heap = H1 → s.vm.Alike t.vm → post r u → B u t → H.size ≤ H1.size → (∀ q : Nat, q < H.size → ¬ A1 q → H1[q]? = H[q]?) → va_S A0 H0 H1 locs1 → W p l e R s m args below meth c H1 locs1 (cells + mc) (slots + ms) Q (F0 m (pc + 3) ls (.long r :: rest))) : W p l e R s m args below meth c H locs cells slots Q (F0 m pc ls st0) := by
  intro T hT X
  rcases hr T hT X with ⟨v, st₀, t, T', L, h0, X', hL, e1, e2, ⟨⟨r, u, hv, hp, hb⟩, hF⟩, st⟩ | ⟨q, st₀, t, T', L, E, ce, h0, X', hL, e1, e2, ⟨u, hp, hb, hF⟩, hce, hcv, hcl, st⟩
  · cases hv
    obtain ⟨k1, k2, k3⟩ := vx_keep h0 e1 hS hA hf hL hF
    obtain ⟨t2, a1, b1⟩ := kk r u t T'.heap (locs ++ L) e1.symm (by rw [← e2]; exact X'.warmed.alike) hp hb k1 k2 k3 T' rfl X'
    exact ⟨t2, st t2 a1, b1⟩
  · obtain ⟨k1, k2, k3⟩ := vx_keep h0 e1 hS hAX hf hL hF
    obtain ⟨t2, a1, b1⟩ := kx E ce q u t T'.heap (locs ++ L) e1.symm (by rw [← e2]; exact X'.warmed.alike) hp hb k1 k2 k3 (by rw [e1]; exact hce) hcv hcl T' rfl X'
    exact ⟨t2, st.trans a1, b1⟩
theorem vx_callf {S SX : Type} {post : UInt32 → S → Prop} {px : SX → Prop} {B : S → State → Prop} {BX : String → SX → State → Prop} {AX : Nat → Prop} (hr : vx_Run p l e R s m args below meth c H locs cells slots mc ms (F0 m pc ls st0) rest (va_Qf post B A1 a) (vx_X px BX AX) free) (hS : va_S A0 H0 H locs) (hA : ∀ q, q < H.size → A1 q → A0 q) (hf : ∀ q, free q → A0 q) (hAX : ∀ q, q < H.size → AX q → A0 q)
    (kx : ∀ (E : String) (ce : Cell) (q9 : Addr) (u : SX) (t : State) (H1 : Heap) (locs1 : List Loc), t.heap = H1 → s.vm.Alike t.vm → px u → BX E u t → H.size ≤ H1.size → (∀ q : Nat, q < H.size → ¬ AX q → H1[q]? = H[q]?) → va_S A0 H0 H1 locs1 → H1[q9]? = some ce → ce.vm = .none → s.vm.findClass E = some ce.cls → vx_W p l e R s m args below meth c H1 locs1 (cells + mc) (slots + ms) Q (F0 m pc ls rest) q9)
    (kk : ∀ (r : UInt32) (u : S) (t : State) (H1 : Heap) (locs1 : List Loc), t.heap = H1 → s.vm.Alike t.vm → post r u → B u t → H.size ≤ H1.size → (∀ q : Nat, q < H.size → ¬ A1 q → H1[q]? = H[q]?) → va_S A0 H0 H1 locs1 → W p l e R s m args below meth c H1 locs1 (cells + mc) (slots + ms) Q (F0 m (pc + 3) ls (.float r :: rest))) : W p l e R s m args below meth c H locs cells slots Q (F0 m pc ls st0) := by
  intro T hT X
  rcases hr T hT X with ⟨v, st₀, t, T', L, h0, X', hL, e1, e2, ⟨⟨r, u, hv, hp, hb⟩, hF⟩, st⟩ | ⟨q, st₀, t, T', L, E, ce, h0, X', hL, e1, e2, ⟨u, hp, hb, hF⟩, hce, hcv, hcl, st⟩
  · cases hv
    obtain ⟨k1, k2, k3⟩ := vx_keep h0 e1 hS hA hf hL hF
    obtain ⟨t2, a1, b1⟩ := kk r u t T'.heap (locs ++ L) e1.symm (by rw [← e2]; exact X'.warmed.alike) hp hb k1 k2 k3 T' rfl X'
    exact ⟨t2, st t2 a1, b1⟩
  · obtain ⟨k1, k2, k3⟩ := vx_keep h0 e1 hS hAX hf hL hF
    obtain ⟨t2, a1, b1⟩ := kx E ce q u t T'.heap (locs ++ L) e1.symm (by rw [← e2]; exact X'.warmed.alike) hp hb k1 k2 k3 (by rw [e1]; exact hce) hcv hcl T' rfl X'
    exact ⟨t2, st.trans a1, b1⟩
theorem vx_calld {S SX : Type} {post : UInt64 → S → Prop} {px : SX → Prop} {B : S → State → Prop} {BX : String → SX → State → Prop} {AX : Nat → Prop} (hr : vx_Run p l e R s m args below meth c H locs cells slots mc ms (F0 m pc ls st0) rest (va_Qd post B A1 a) (vx_X px BX AX) free) (hS : va_S A0 H0 H locs) (hA : ∀ q, q < H.size → A1 q → A0 q) (hf : ∀ q, free q → A0 q) (hAX : ∀ q, q < H.size → AX q → A0 q)
    (kx : ∀ (E : String) (ce : Cell) (q9 : Addr) (u : SX) (t : State) (H1 : Heap) (locs1 : List Loc), t.heap = H1 → s.vm.Alike t.vm → px u → BX E u t → H.size ≤ H1.size → (∀ q : Nat, q < H.size → ¬ AX q → H1[q]? = H[q]?) → va_S A0 H0 H1 locs1 → H1[q9]? = some ce → ce.vm = .none → s.vm.findClass E = some ce.cls → vx_W p l e R s m args below meth c H1 locs1 (cells + mc) (slots + ms) Q (F0 m pc ls rest) q9)
    (kk : ∀ (r : UInt64) (u : S) (t : State) (H1 : Heap) (locs1 : List Loc), t.heap = H1 → s.vm.Alike t.vm → post r u → B u t → H.size ≤ H1.size → (∀ q : Nat, q < H.size → ¬ A1 q → H1[q]? = H[q]?) → va_S A0 H0 H1 locs1 → W p l e R s m args below meth c H1 locs1 (cells + mc) (slots + ms) Q (F0 m (pc + 3) ls (.double r :: rest))) : W p l e R s m args below meth c H locs cells slots Q (F0 m pc ls st0) := by
  intro T hT X
  rcases hr T hT X with ⟨v, st₀, t, T', L, h0, X', hL, e1, e2, ⟨⟨r, u, hv, hp, hb⟩, hF⟩, st⟩ | ⟨q, st₀, t, T', L, E, ce, h0, X', hL, e1, e2, ⟨u, hp, hb, hF⟩, hce, hcv, hcl, st⟩
  · cases hv
    obtain ⟨k1, k2, k3⟩ := vx_keep h0 e1 hS hA hf hL hF
    obtain ⟨t2, a1, b1⟩ := kk r u t T'.heap (locs ++ L) e1.symm (by rw [← e2]; exact X'.warmed.alike) hp hb k1 k2 k3 T' rfl X'
    exact ⟨t2, st t2 a1, b1⟩
  · obtain ⟨k1, k2, k3⟩ := vx_keep h0 e1 hS hAX hf hL hF
    obtain ⟨t2, a1, b1⟩ := kx E ce q u t T'.heap (locs ++ L) e1.symm (by rw [← e2]; exact X'.warmed.alike) hp hb k1 k2 k3 (by rw [e1]; exact hce) hcv hcl T' rfl X'
    exact ⟨t2, st.trans a1, b1⟩
theorem vx_callv {S SX : Type} {post : S → Prop} {px : SX → Prop} {B : S → State → Prop} {BX : String → SX → State → Prop} {AX : Nat → Prop} (hr : vx_Run p l e R s m args below meth c H locs cells slots mc ms (F0 m pc ls st0) rest (va_Qv post B A1 a) (vx_X px BX AX) free) (hS : va_S A0 H0 H locs) (hA : ∀ q, q < H.size → A1 q → A0 q) (hf : ∀ q, free q → A0 q) (hAX : ∀ q, q < H.size → AX q → A0 q)
    (kx : ∀ (E : String) (ce : Cell) (q9 : Addr) (u : SX) (t : State) (H1 : Heap) (locs1 : List Loc), t.heap = H1 → s.vm.Alike t.vm → px u → BX E u t → H.size ≤ H1.size → (∀ q : Nat, q < H.size → ¬ AX q → H1[q]? = H[q]?) → va_S A0 H0 H1 locs1 → H1[q9]? = some ce → ce.vm = .none → s.vm.findClass E = some ce.cls → vx_W p l e R s m args below meth c H1 locs1 (cells + mc) (slots + ms) Q (F0 m pc ls rest) q9)
    (kk : ∀ (u : S) (t : State) (H1 : Heap) (locs1 : List Loc), t.heap = H1 → s.vm.Alike t.vm → post u → B u t → H.size ≤ H1.size → (∀ q : Nat, q < H.size → ¬ A1 q → H1[q]? = H[q]?) → va_S A0 H0 H1 locs1 → W p l e R s m args below meth c H1 locs1 (cells + mc) (slots + ms) Q (F0 m (pc + 3) ls (rest))) : W p l e R s m args below meth c H locs cells slots Q (F0 m pc ls st0) := by
  intro T hT X
  rcases hr T hT X with ⟨v, st₀, t, T', L, h0, X', hL, e1, e2, ⟨⟨u, hv, hp, hb⟩, hF⟩, st⟩ | ⟨q, st₀, t, T', L, E, ce, h0, X', hL, e1, e2, ⟨u, hp, hb, hF⟩, hce, hcv, hcl, st⟩
  · cases hv
    obtain ⟨k1, k2, k3⟩ := vx_keep h0 e1 hS hA hf hL hF
    obtain ⟨t2, a1, b1⟩ := kk u t T'.heap (locs ++ L) e1.symm (by rw [← e2]; exact X'.warmed.alike) hp hb k1 k2 k3 T' rfl X'
    exact ⟨t2, st t2 a1, b1⟩
  · obtain ⟨k1, k2, k3⟩ := vx_keep h0 e1 hS hAX hf hL hF
    obtain ⟨t2, a1, b1⟩ := kx E ce q u t T'.heap (locs ++ L) e1.symm (by rw [← e2]; exact X'.warmed.alike) hp hb k1 k2 k3 (by rw [e1]; exact hce) hcv hcl T' rfl X'
    exact ⟨t2, st.trans a1, b1⟩
/-- caught by the row x of this method's table; the rows ahead don't take it -/
theorem vx_catch {own name : String} {E : String} {ce : Cell} {q : Addr} (hown : s.vm.findClass own = some m.cls) (pre : List ExceptionTableEntry) (x : ExceptionTableEntry) (suf : List ExceptionTableEntry) (hsplit : c.exceptionTable.toList = pre ++ x :: suf)
    (hpass : ∀ z ∈ pre, covers z pc = false ∨ (z.catchType ≠ 0 ∧ ∃ nm : String, (Cond.classLink own z.catchType nm).before args s = true ∧ va_Nc E nm s)) (hx : covers x pc = true) (h0 : x.catchType ≠ 0)
    (hlink : (Cond.classLink own x.catchType name).before args s = true) (hcast : (Cond.castable E name).before args s = true) (hcell : H[q]? = some ce) (hv : ce.vm = .none) (hcl : s.vm.findClass E = some ce.cls)
    (kk : W p l e R s m args below meth c H locs cells slots Q (F0 m x.handlerPc ls [.ref q])) : vx_W p l e R s m args below meth c H locs cells slots Q (F0 m pc ls rest) q := by
  intro T hT X
  have hpl : e.platform.magicAccessors = ({} : Platform).magicAccessors := by rw [X.admits.platform]
  obtain ⟨c3, c4, hc3, hc4, hasg⟩ := Cond.castable_spec hcast
  cases Option.some.inj (hc3.symm.trans hcl)
  obtain ⟨c5, hc5, hcl5⟩ := Cond.classLink_spec hown hlink e.platform hpl
  cases Option.some.inj (hc4.symm.trans hc5)
  obtain ⟨vm', X', st⟩ := X.thenCaughtThrough q (g := F0 m pc ls rest) rfl (Steps.refl _) (by rw [hT]; exact hcell) (by rw [hv]; rfl) (by obtain ⟨k9, h9, -⟩ := Vm.findClass_spec hcl; exact ⟨k9, h9⟩) pre x suf hsplit
    (fun z hz => by
      rcases hpass z hz with h | ⟨hz0, nm, hl1, hn1⟩
      · exact Or.inl h
      · obtain ⟨c6, hc6, hcl6⟩ := Cond.classLink_spec hown hl1 e.platform hpl
        obtain ⟨a8, b8, h1, h2, h3⟩ := hn1
        cases Option.some.inj (h1.symm.trans hcl)
        cases Option.some.inj (h2.symm.trans hc6)
        exact Or.inr ⟨hz0, _, hcl6, h3⟩) hx (Or.inr ⟨h0, c4, hcl5, hasg⟩)
  obtain ⟨t, a1, b1⟩ := kk (T.setVm vm') hT X'
  exact ⟨t, st.trans a1, b1⟩
end Rows
section Ends
variable {p : Program} {l : Launch} {e : Env} {R : Room} {s : State} {m : MethodId} {args : Array Value} {below : List Frame} {meth : Method} {c : Code} {H : Heap} {locs : List Loc} {cells slots : Nat} {Q : State → Prop}
variable {mc ms : Nat} {free : Addr → Prop} {A0 A1 : Nat → Prop} {H0 : Heap} {a : Array Value} {ls : Array Slot} {st0 rest : List Value}
variable {Qc : Array Value → State → Outcome → State → Prop} {XC : String → State → State → Prop}
/-- what a body that may throw owes at its end -/
def vx_MQ (below : List Frame) (Qc : Array Value → State → Outcome → State → Prop) (XC : String → State → State → Prop) (a : Array Value) (s : State) (mc ms : Nat) (free : Addr → Prop) : State → Prop := fun t =>
  ∃ o, t.status = .running ∧ Ended t below o ∧ vx_Q Qc XC mc ms free a s o t
theorem vx_ret {g : JFrame} {mc ms : Nat} (k : W p l e R s m args below meth c H locs cells slots (MQ below Qc args s mc ms free) g) : W p l e R s m args below meth c H locs cells slots (vx_MQ below Qc XC args s mc ms free) g := by
  intro T hT X
  obtain ⟨t, a1, o, b1, b2, b3, b4⟩ := k T hT X
  exact ⟨t, a1, o, b1, b2, Or.inl ⟨b3, b4⟩⟩
/-- not caught here: it goes on to the caller -/
theorem vx_widen {g : JFrame} {q : Addr} {k n : Nat} (h1 : cells ≤ k) (h2 : slots ≤ n) (kk : vx_W p l e R s m args below meth c H locs k n Q g q) : vx_W p l e R s m args below meth c H locs cells slots Q g q := fun T hT X => kk T hT (stand_widen X h1 h2)
theorem vx_out {pc : Nat} {E : String} {ce : Cell} {q : Addr} {mc ms : Nat} (hout : ∀ x ∈ c.exceptionTable.toList, covers x pc = false) (hlocks : meth.locks = false) (hcell : H[q]? = some ce) (hv : ce.vm = .none) (hcl : s.vm.findClass E = some ce.cls)
    (hx : ∀ t : State, t.heap = H → s.vm.Alike t.vm → XC E s t) (hf : ∀ z ∈ locs, free z.base) (hc : cells ≤ mc) (hs : slots ≤ ms) :
    vx_W p l e R s m args below meth c H locs cells slots (vx_MQ below Qc XC args s mc ms free) (F0 m pc ls rest) q := by
  intro T hT X
  obtain ⟨st1, hrun, hend, hW, hsm⟩ := X.leaveThrown q (g := F0 m pc ls rest) rfl rfl rfl hout hlocks
  have hcell9 : (T.setFrames (.throwing q :: below)).heap[q]? = some ce := by
    show T.heap[q]? = some ce
    rw [hT]; exact hcell
  exact ⟨_, st1, .threw q, hrun, hend, Or.inr ⟨q, rfl, E, ce, locs, hx _ hT hW.alike, hcell9, hv, hcl, hW, hsm.mono hc hs, hf⟩⟩
theorem vx_frame {U : State} {k n : Nat} (h : s.sameButNew ({ U with vm := s.vm } : State) locs k n) : s.heap.size ≤ U.heap.size ∧ ∀ q : Nat, q < s.heap.size → (∀ z ∈ locs, z.base ≠ q) → U.heap[q]? = s.heap[q]? := by
  obtain ⟨-, h2, -, -, -, h6⟩ := h
  refine ⟨h2, fun q hq hz => ?_⟩
  obtain ⟨c9, e1, e2, e3, e4⟩ := h6 q _ (Array.getElem?_eq_getElem hq)
  have hs : c9.slots = (s.heap[q]).slots := Array.ext_getElem? fun i => e4 i fun hm => hz _ hm rfl
  have h9 : c9 = s.heap[q] := by
    rw [hs] at e2
    exact e2
  have e5 : U.heap[q]? = some c9 := e1
  rw [e5, h9, Array.getElem?_eq_getElem hq]
/-- the words of a throw but the four that speak of the heap -/
def vx_no (w : Cond) : Bool := decide (w ≠ .isRef (.static Bundle.tN "UNASSIGNED_STACK" Bundle.steD)) && decide (w ≠ .isRef (.static Bundle.tN "SUPPRESSED_SENTINEL" Bundle.listD)) && decide (w ≠ .laysStatic Bundle.tN "UNASSIGNED_STACK" Bundle.steD) && decide (w ≠ .laysStatic Bundle.tN "SUPPRESSED_SENTINEL" Bundle.listD)
def vx_at0 (own : String) (ic : Nat) (X : String) (names : List String) : List Cond := (Bundle.ownAtoms0 own ic X names).filter vx_no
def vx_atS (own : String) (ic : Nat) (X : String) (names : List String) : List Cond := (Bundle.ownAtoms own ic X names).filter vx_no
/-- a word that the tables alone decide, or a good one -/
def vx_ot (w : Cond) : Bool := w.onTables || goodWord w
theorem vx_ot_at {args a' : Array Value} {s U : State} {w : Cond} (hW : s.WarmedH U.vm) (hvm : s.vm = U.vm) (hg : vx_ot w = true) (h : w.before args s = true) : w.before a' U = true := by
  simp only [vx_ot, Bool.or_eq_true] at hg
  rcases hg with hg | hg
  · exact va_tabs hg hvm h
  · exact word_at hW (good_of_word hg) h
/-- a list's words: the good ones out of the method's own list, the others by premises of their own -/
theorem vx_hat {args : Array Value} {s : State} {L B : List Cond} (h1 : ∀ w ∈ L.filter goodWord, w.before args s = true) (h2 : ∀ w ∈ L.filter (fun w => !goodWord w), w ∈ B) (h3 : ∀ w ∈ B, w.before args s = true) : ∀ w ∈ L, w.before args s = true := by
  intro w hw
  by_cases g : goodWord w = true
  · exact h1 w (List.mem_filter.mpr ⟨hw, g⟩)
  · refine h3 w (h2 w (List.mem_filter.mpr ⟨hw, ?_⟩))
    show (!goodWord w) = true
    cases hgw : goodWord w
    · rfl
    · exact absurd hgw g
theorem vx_c {args : Array Value} {s : State} {w : Cond} {B : List Cond} (h : w.before args s = true) (t : ∀ w ∈ B, w.before args s = true) : ∀ w' ∈ w :: B, w'.before args s = true := fun w' h' => (List.mem_cons.mp h').elim (fun e => by rw [e]; exact h) (t w')
theorem vx_n {args : Array Value} {s : State} : ∀ w ∈ ([] : List Cond), w.before args s = true := fun _ h => nomatch h
theorem vx_own {args : Array Value} {s : State} {L : List Cond} (h1 : ∀ w ∈ L.filter vx_no, w.before args s = true)
    (hU : (Cond.isRef (.static Bundle.tN "UNASSIGNED_STACK" Bundle.steD)).before args s = true) (hN : (Cond.isRef (.static Bundle.tN "SUPPRESSED_SENTINEL" Bundle.listD)).before args s = true)
    (lU : (Cond.laysStatic Bundle.tN "UNASSIGNED_STACK" Bundle.steD).before args s = true) (lN : (Cond.laysStatic Bundle.tN "SUPPRESSED_SENTINEL" Bundle.listD).before args s = true) : ∀ w ∈ L, w.before args s = true := by
  intro w hw
  by_cases e1 : w = .isRef (.static Bundle.tN "UNASSIGNED_STACK" Bundle.steD)
  · rw [e1]; exact hU
  · by_cases e2 : w = .isRef (.static Bundle.tN "SUPPRESSED_SENTINEL" Bundle.listD)
    · rw [e2]; exact hN
    · by_cases e3 : w = .laysStatic Bundle.tN "UNASSIGNED_STACK" Bundle.steD
      · rw [e3]; exact lU
      · by_cases e4 : w = .laysStatic Bundle.tN "SUPPRESSED_SENTINEL" Bundle.listD
        · rw [e4]; exact lN
        · exact h1 w (List.mem_filter.mpr ⟨hw, by unfold vx_no; rw [decide_eq_true e1, decide_eq_true e2, decide_eq_true e3, decide_eq_true e4]; rfl⟩)
/-- where a static field lies, its class's statics cell in H -/
def vx_L (C n d : String) (A : Nat → Prop) (U : State) (H : Heap) : Prop := ∃ (c : ClassId) (k : Class) (i : Nat) (f : Field) (a : Nat) (cell : Cell), U.vm.findClass C = some c ∧ U.fieldFound? C n d = some (c, k, i, f) ∧ f.isStatic = true ∧ k.statics = some a ∧ H[a]? = some cell ∧ cell.vm.isStatics = true ∧ cell.cls = c ∧ f.slot < cell.slots.size ∧ k.staticTypes[f.slot]? = some f.type ∧ ¬ A a
theorem vx_L.moved {C n d : String} {A : Nat → Prop} {u U : State} {H : Heap} (hvm : u.vm.Alike U.vm) (h : vx_L C n d A u H) : vx_L C n d A U H := by
  obtain ⟨c, k, i, f, a, cell, h1, h2, h3, h4, h5, h6, h7, h8, h9, h10⟩ := h
  obtain ⟨k', hi', he⟩ := State.fieldFound?_setVm hvm h2
  exact ⟨c, k', i, f, a, cell, by rw [hvm.findClass]; exact h1, hi', h3, by rw [he]; exact h4, h5, h6, h7, h8, by rw [he]; exact h9, h10⟩
theorem vx_L.kept {C n d : String} {A : Nat → Prop} {U : State} {H H1 : Heap} (h : vx_L C n d A U H) (hq : ∀ a : Nat, a < H.size → ¬ A a → H1[a]? = H[a]?) : vx_L C n d A U H1 := by
  obtain ⟨c, k, i, f, a, cell, h1, h2, h3, h4, h5, h6, h7, h8, h9, h10⟩ := h
  exact ⟨c, k, i, f, a, cell, h1, h2, h3, h4, by rw [hq a (Array.getElem?_eq_some_iff.mp h5).1 h10]; exact h5, h6, h7, h8, h9, h10⟩
theorem vx_L.narrow {C n d : String} {A B : Nat → Prop} {U : State} {H : Heap} (h : vx_L C n d A U H) (hAB : ∀ q, B q → A q) : vx_L C n d B U H := by
  obtain ⟨c, k, i, f, a, cell, h1, h2, h3, h4, h5, h6, h7, h8, h9, h10⟩ := h
  exact ⟨c, k, i, f, a, cell, h1, h2, h3, h4, h5, h6, h7, h8, h9, fun z => h10 (hAB _ z)⟩
theorem vx_L.word {C n d : String} {A : Nat → Prop} {s : State} {args : Array Value} (h : vx_L C n d A s s.heap) : (Cond.laysStatic C n d).before args s = true := by
  obtain ⟨c, k, i, f, a, cell, h1, h2, h3, h4, h5, h6, h7, h8, h9, -⟩ := h
  show (Cond.laysStatic C n d).holds args s none s [] = true
  exact Cond.laysStatic_of h1 h2 h3 h4 h5 h6 h7 h8 h9
/-- .. and what it holds: null or some reference -/
def vx_Zq (C n d : String) (A : Nat → Prop) (U : State) (H : Heap) : Prop := va_Zq C n d A U H ∧ vx_L C n d A U H
theorem vx_Zq.moved {C n d : String} {A : Nat → Prop} {u U : State} {H : Heap} (hvm : u.vm.Alike U.vm) (h : vx_Zq C n d A u H) : vx_Zq C n d A U H := ⟨va_Zq.moved hvm h.1, vx_L.moved hvm h.2⟩
theorem vx_Zq.kept {C n d : String} {A : Nat → Prop} {U : State} {H H1 : Heap} (h : vx_Zq C n d A U H) (hq : ∀ a : Nat, a < H.size → ¬ A a → H1[a]? = H[a]?) : vx_Zq C n d A U H1 := ⟨va_Zq.kept h.1 hq, vx_L.kept h.2 hq⟩
theorem vx_Zq.narrow {C n d : String} {A B : Nat → Prop} {U : State} {H : Heap} (h : vx_Zq C n d A U H) (hAB : ∀ q, B q → A q) : vx_Zq C n d B U H := ⟨va_Zq.narrow h.1 hAB, vx_L.narrow h.2 hAB⟩
theorem vx_Zqof {args : Array Value} {s : State} {C n d : String} {A : Nat → Prop} (hl : (Cond.laysStatic C n d).before args s = true) (hini : (Cond.initialized C).before args s = true) (h : (Cond.isRef (.static C n d)).before args s = true) (hA : ∀ a : Nat, a < s.heap.size → ¬ A a) : vx_Zq C n d A s s.heap := by
  refine ⟨va_Zqof hl hini h hA, ?_⟩
  obtain ⟨c, k, i, f, a, cell, h1, h2, h3, h4, h5, h6, h7, h8, h9⟩ := Cond.laysStatic_spec hl
  exact ⟨c, k, i, f, a, cell, h1, h2, h3, h4, h5, h6, h7, h8, h9, hA a (Array.getElem?_eq_some_iff.mp h5).1⟩
theorem vx_isRef {C n d : String} {v : Value} {A : Nat → Prop} {s : State} {args : Array Value} (h : va_Z C n d v A s s.heap) (hv : v.isRef = true) : (Cond.isRef (.static C n d)).before args s = true := by
  obtain ⟨cf, kf, fi, f, a, cell, h1, h2, h3, h4, h5, h6, h7, -⟩ := h
  have he : (Term.static C n d).eval args s none [] s = some v := by
    simp [Term.eval, State.fieldNamed?, h1, h2, h4, h5, h6, h7]
  simp only [Cond.before, Cond.holds, Cond.value, he]
  cases v <;> simp_all [Value.isRef]
theorem vx_isRefq {C n d : String} {A : Nat → Prop} {s : State} {args : Array Value} (h : va_Zq C n d A s s.heap) : (Cond.isRef (.static C n d)).before args s = true := by
  rcases h with h | ⟨t, h⟩
  · exact vx_isRef h rfl
  · exact vx_isRef h rfl
/-- the same frame, seen from here: as if the method were called anew in this heap -/
theorem vx_rebase {T : State} (X : Stand p l e R s m args below meth c T locs cells slots) {R' : Room} (hf : R'.frames ≤ R.frames) (hl : R'.locals ≤ R.locals) (hc : cells + R'.cells ≤ R.cells) (hs : slots + R'.slots ≤ R.slots) :
    Stand p l e R' ((T.setVm s.vm).setFrames (.invoking m args :: below)) m args below meth c T [] 0 0 := by
  have htop : (T.setVm s.vm).topJava?.isSome := X.here.top
  have hF : ((T.setVm s.vm).setFrames (.invoking m args :: below)).frames = .invoking m args :: below := State.frames_setFrames _ (State.cur_lt_of_top htop)
  obtain ⟨g₀, hg0⟩ := Option.isSome_iff_exists.mp htop
  obtain ⟨r, hr⟩ := State.topJava?_eq_some.mp hg0
  have hl9 : e.platform.stackLimits (T.setVm s.vm).me = e.platform.stackLimits s.me := X.limits
  have hb9 : (T.setVm s.vm).me.stackBytes = s.me.stackBytes := X.bytes
  refine ⟨X.admits, X.cas, X.clock, hF, ?_, X.hears, X.method, X.code, X.here, X.tail, X.warmed, ?_, ?_, ?_⟩
  · have h := X.room
    have hU : ((T.setVm s.vm).setFrames (.invoking m args :: below)).localsInUse = s.localsInUse := by
      rw [State.localsInUse_invoking hF (meth := meth) (c := c) X.method X.code, State.localsInUse_invoking X.frames X.method X.code]
    simp only [State.hasRoom, Bool.and_eq_true, decide_eq_true_eq] at h ⊢
    obtain ⟨⟨⟨⟨h1, h2, h3, h4, h5, h6⟩, h7⟩, h8⟩, h9⟩ := h
    rw [X.frames, List.length_cons] at h2 h3
    have q1 := X.heapSize
    have q2 := X.used
    simp only [hF, hU, List.length_cons, State.stackLimits_setFrames, State.stackBytes_setFrames, hl9, hb9]
    refine ⟨⟨⟨⟨by omega, by omega, by omega, by omega, by omega, h6⟩, ?_⟩, ?_⟩, X.book⟩
    · show T.heap.size + R'.cells ≤ e.platform.maxCells
      omega
    · show T.slotsUsed + R'.slots ≤ e.platform.maxSlots
      omega
  · rw [State.stackLimits_setFrames]; rfl
  · rw [State.stackBytes_setFrames]; rfl
  · refine ⟨?_, Nat.le_refl _, Nat.le_refl _, ?_, ?_, fun a c9 h9 => ⟨c9, h9, rfl, rfl, fun _ _ => rfl⟩⟩
    · obtain ⟨t, ht, -⟩ := State.frames_cons hr
      show T.setVm s.vm = { ((T.setVm s.vm).setFrames (.invoking m args :: below)).setFrames (T.setVm s.vm).frames with heap := T.heap, slotsUsed := T.slotsUsed }
      rw [State.setFrames_setFrames, State.setFrames_self ht]
      rfl
    · show T.slotsUsed = T.slotsUsed + ((T.heap.toList.drop T.heap.size).map (·.slots.size)).sum
      rw [List.drop_eq_nil_of_le (Nat.le_of_eq Array.length_toList)]
      rfl
    · show ((T.heap.toList.drop T.heap.size).map (·.slots.size)).sum ≤ 0
      rw [List.drop_eq_nil_of_le (Nat.le_of_eq Array.length_toList)]
      exact Nat.le_refl _
/-- 'throw new E()': new; dup; invokespecial; athrow -/
theorem vx_throw0 {cc : ByteArray} {pc : Nat} (hexec : p.tables.exec = Jvm.exec) (hb : c.code = cc) (hl : l.stackTraces = false) {own cls : String} {names : List String} {ik ic mc ms : Nat} {A : Nat → Prop}
    (hown : s.vm.findClass own = some m.cls) (hcls : Bundle.fit cls = true) (hnames : ∀ n ∈ names, Bundle.fit n = true)
    (hk : (Cond.classLink own ik cls).before args s = true) (hini : (Cond.initialized cls).before args s = true) (hat : ∀ w ∈ vx_at0 own ic cls names, w.before args s = true)
    (hgood : ∀ w ∈ Cond.classLink own ik cls :: Cond.initialized cls :: vx_at0 own ic cls names, vx_ot w = true)
    (hU : vx_Zq Bundle.tN "UNASSIGNED_STACK" Bundle.steD A s s.heap) (hN : vx_Zq Bundle.tN "SUPPRESSED_SENTINEL" Bundle.listD A s s.heap) (hS : va_S A s.heap H locs) (hsize : ls.size = c.maxLocals)
    (d0 : decode cc pc = .ok (.new ik, 3)) (d3 : decode cc (pc + 3) = .ok (.dup, 1)) (d4 : decode cc (pc + 4) = .ok (.invokespecial ic, 3)) (d7 : decode cc (pc + 7) = .ok (.athrow, 1))
    (hout : ∀ x ∈ c.exceptionTable.toList, covers x (pc + 7) = false)
    (hRframes : names.length + 3 < R.frames) (hRlocals : (rest.map fun v => v.category).sum + (13 * (names.length + 1) + 42) ≤ R.locals) (hRcells : cells + 1 ≤ R.cells) (hRslots : slots + 6 ≤ R.slots) (hlocks : meth.locks = false)
    (hx : ∀ t : State, s.vm.Alike t.vm → H.size ≤ t.heap.size → (∀ q : Nat, q < H.size → t.heap[q]? = H[q]?) → XC cls s t)
    (hf : ∀ z ∈ locs, free z.base) (hc : cells + 1 ≤ mc) (hs : slots + 6 ≤ ms) :
    W p l e R s m args below meth c H locs cells slots (vx_MQ below Qc XC args s mc ms free) (F0 m pc ls rest) := by
  intro T hT X
  have htr : e.platform.stackTraces = false := (show e.platform.stackTraces = l.stackTraces by rw [X.admits.platform]).trans hl
  have Y := vx_rebase X (R' := { frames := R.frames, locals := R.locals, cells := 1, slots := 6 }) (Nat.le_refl _) (Nat.le_refl _) hRcells hRslots
  obtain ⟨s', hA⟩ : ∃ z, z = (T.setVm s.vm).setFrames (.invoking m args :: below) := ⟨_, rfl⟩
  rw [← hA] at Y
  have hvm : s'.vm = s.vm := by rw [hA]; rfl
  have hhp : s'.heap = H := by rw [hA]; exact hT
  have hW0 : s.WarmedH s'.vm := by rw [hvm]; exact State.WarmedH.refl s
  have hat' : ∀ w ∈ vx_at0 own ic cls names, w.before args s' = true := fun w hw => vx_ot_at hW0 hvm.symm (hgood w (List.mem_cons_of_mem _ (List.mem_cons_of_mem _ hw))) (hat w hw)
  have hk' : (Cond.classLink own ik cls).before args s' = true := vx_ot_at hW0 hvm.symm (hgood _ List.mem_cons_self) hk
  have hini' : (Cond.initialized cls).before args s' = true := vx_ot_at hW0 hvm.symm (hgood _ (List.mem_cons_of_mem _ List.mem_cons_self)) hini
  have hU' : vx_Zq Bundle.tN "UNASSIGNED_STACK" Bundle.steD A s' s'.heap := by rw [hhp]; exact vx_Zq.moved hW0.alike (hU.kept hS.2.1)
  have hN' : vx_Zq Bundle.tN "SUPPRESSED_SENTINEL" Bundle.listD A s' s'.heap := by rw [hhp]; exact vx_Zq.moved hW0.alike (hN.kept hS.2.1)
  have h : ∀ w ∈ Bundle.ownAtoms0 own ic cls names, w.before args s' = true := vx_own hat' (vx_isRefq hU'.1) (vx_isRefq hN'.1) hU'.2.word hN'.2.word
  have hown' : s'.vm.findClass own = some m.cls := by rw [hvm]; exact hown
  have hins : (Cond.instantiable cls 6).before args s' = true := h _ (by simp [Bundle.ownAtoms0])
  obtain ⟨vm₁, cX, kX, hfX, hkX, -, -, X₁, st1⟩ := Y.newCold hexec (own := own) (C := cls) (index := ik) (n := 6) hown' hk' hins hini'
    (g := F0 m pc ls rest) rfl (by rw [hb]; exact d0) (Nat.le_refl _) (Nat.le_refl _)
  generalize hT1 : (T.setVm vm₁).pushCell { cls := cX, slots := kX.instanceTypes.map defaultValue, vm := .none } = T1 at X₁ st1
  have hcat : (Value.ref T.heap.size).category = 1 := rfl
  have hcellA : T1.heap[T.heap.size]? = some (freshCell cX kX) := by rw [← hT1]; exact State.heap_pushCell_size _ _
  have d3' : decode c.code (pc + 3) = .ok (.dup, 1) := by rw [hb]; exact d3
  obtain ⟨U, hsteps, hrun, hend, hW, hsame, ce, hce, hO⟩ := X₁.ctorThrow0 hexec htr (own := own) (cls := cls) (names := names) (ic := ic) hown' hcls hnames h (fun x hx => nomatch hx) hfX hkX hcellA (by rw [hhp, hT]; exact Nat.le_refl _)
    (g := { method := m, pc := pc + 4, locals := ls, stack := .ref T.heap.size :: .ref T.heap.size :: rest, locked := none }) rfl hsize rfl rfl (rest := rest) rfl
    (by rw [hb]; exact d4) (by rw [hb]; exact d7) hout hRframes (by simp only [List.map_cons, List.sum_cons, hcat]; omega) hlocks
  obtain ⟨f1, f2⟩ := vx_frame hsame
  rw [hhp] at f1 f2
  have hWs : s.WarmedH U.vm := State.WarmedH.trans hW0 hW
  have hcl : s.vm.findClass cls = some ce.cls := by
    have h9 := hO.cls
    rw [hvm] at h9
    exact h9
  have hall : s.sameButNew ({ U with vm := s.vm } : State) locs mc ms := by
    subst hA
    obtain ⟨e1, e2⟩ := hsame
    rw [State.setFrames_setFrames] at e1
    have h2 : (T.setVm s.vm).sameButNew ({ U with vm := s.vm } : State) [] (0 + 1) (0 + 6) := ⟨e1, e2⟩
    have h3 := X.same.trans h2
    rw [List.append_nil] at h3
    exact h3.mono hc hs
  refine ⟨U, ?_, .threw T.heap.size, hrun, hend, Or.inr ⟨T.heap.size, rfl, cls, ce, locs, hx U hWs.alike f1 (fun q hq => f2 q hq (fun z hz => nomatch hz)), hce, hO.vm, hcl, hWs, hall, hf⟩⟩
  refine st1 _ ?_
  show Steps p.tables e below (T1.setTop { method := m, pc := pc + 3, locals := ls, stack := .ref T.heap.size :: rest, locked := none }) _
  jvm_step X₁.here [X₁.here.top, hexec, d3', Value.category]
  exact hsteps
/-- 'throw new E("text")': new; dup; ldc; invokespecial; athrow -/
theorem vx_throwS {cc : ByteArray} {pc : Nat} (hexec : p.tables.exec = Jvm.exec) (hb : c.code = cc) (hl : l.stackTraces = false) {own cls text : String} {names : List String} {ik is ic mc ms sa : Nat} {A : Nat → Prop}
    (hown : s.vm.findClass own = some m.cls) (hcls : Bundle.fit cls = true) (hnames : ∀ n ∈ names, Bundle.fit n = true)
    (hk : (Cond.classLink own ik cls).before args s = true) (hini : (Cond.initialized cls).before args s = true) (hstr : vk_R own is text sa s) (hat : ∀ w ∈ vx_atS own ic cls names, w.before args s = true)
    (hgood : ∀ w ∈ Cond.classLink own ik cls :: Cond.initialized cls :: vx_atS own ic cls names, vx_ot w = true)
    (hU : vx_Zq Bundle.tN "UNASSIGNED_STACK" Bundle.steD A s s.heap) (hN : vx_Zq Bundle.tN "SUPPRESSED_SENTINEL" Bundle.listD A s s.heap) (hS : va_S A s.heap H locs) (hsize : ls.size = c.maxLocals)
    (d0 : decode cc pc = .ok (.new ik, 3)) (d3 : decode cc (pc + 3) = .ok (.dup, 1)) (d4 : decode cc (pc + 4) = .ok (.ldc is, 2)) (d6 : decode cc (pc + 6) = .ok (.invokespecial ic, 3)) (d9 : decode cc (pc + 9) = .ok (.athrow, 1))
    (hout : ∀ x ∈ c.exceptionTable.toList, covers x (pc + 9) = false)
    (hRframes : names.length + 3 < R.frames) (hRlocals : (rest.map fun v => v.category).sum + (13 * (names.length + 1) + 43) ≤ R.locals) (hRcells : cells + 1 ≤ R.cells) (hRslots : slots + 6 ≤ R.slots) (hlocks : meth.locks = false)
    (hx : ∀ t : State, s.vm.Alike t.vm → H.size ≤ t.heap.size → (∀ q : Nat, q < H.size → t.heap[q]? = H[q]?) → XC cls s t)
    (hf : ∀ z ∈ locs, free z.base) (hc : cells + 1 ≤ mc) (hs : slots + 6 ≤ ms) :
    W p l e R s m args below meth c H locs cells slots (vx_MQ below Qc XC args s mc ms free) (F0 m pc ls rest) := by
  intro T hT X
  have htr : e.platform.stackTraces = false := (show e.platform.stackTraces = l.stackTraces by rw [X.admits.platform]).trans hl
  have Y := vx_rebase X (R' := { frames := R.frames, locals := R.locals, cells := 1, slots := 6 }) (Nat.le_refl _) (Nat.le_refl _) hRcells hRslots
  obtain ⟨s', hA⟩ : ∃ z, z = (T.setVm s.vm).setFrames (.invoking m args :: below) := ⟨_, rfl⟩
  rw [← hA] at Y
  have hvm : s'.vm = s.vm := by rw [hA]; rfl
  have hhp : s'.heap = H := by rw [hA]; exact hT
  have hW0 : s.WarmedH s'.vm := by rw [hvm]; exact State.WarmedH.refl s
  have hat' : ∀ w ∈ vx_atS own ic cls names, w.before args s' = true := fun w hw => vx_ot_at hW0 hvm.symm (hgood w (List.mem_cons_of_mem _ (List.mem_cons_of_mem _ hw))) (hat w hw)
  have hk' : (Cond.classLink own ik cls).before args s' = true := vx_ot_at hW0 hvm.symm (hgood _ List.mem_cons_self) hk
  have hini' : (Cond.initialized cls).before args s' = true := vx_ot_at hW0 hvm.symm (hgood _ (List.mem_cons_of_mem _ List.mem_cons_self)) hini
  have hU' : vx_Zq Bundle.tN "UNASSIGNED_STACK" Bundle.steD A s' s'.heap := by rw [hhp]; exact vx_Zq.moved hW0.alike (hU.kept hS.2.1)
  have hN' : vx_Zq Bundle.tN "SUPPRESSED_SENTINEL" Bundle.listD A s' s'.heap := by rw [hhp]; exact vx_Zq.moved hW0.alike (hN.kept hS.2.1)
  have h : ∀ w ∈ Bundle.ownAtoms own ic cls names, w.before args s' = true := vx_own hat' (vx_isRefq hU'.1) (vx_isRefq hN'.1) hU'.2.word hN'.2.word
  have hown' : s'.vm.findClass own = some m.cls := by rw [hvm]; exact hown
  have hins : (Cond.instantiable cls 6).before args s' = true := h _ (by simp [Bundle.ownAtoms])
  obtain ⟨vm₁, cX, kX, hfX, hkX, -, -, X₁, st1⟩ := Y.newCold hexec (own := own) (C := cls) (index := ik) (n := 6) hown' hk' hins hini'
    (g := F0 m pc ls rest) rfl (by rw [hb]; exact d0) (Nat.le_refl _) (Nat.le_refl _)
  generalize hT1 : (T.setVm vm₁).pushCell { cls := cX, slots := kX.instanceTypes.map defaultValue, vm := .none } = T1 at X₁ st1
  have hcat : (Value.ref T.heap.size).category = 1 := rfl
  have hcellA : T1.heap[T.heap.size]? = some (freshCell cX kX) := by rw [← hT1]; exact State.heap_pushCell_size _ _
  have d3' : decode c.code (pc + 3) = .ok (.dup, 1) := by rw [hb]; exact d3
  have d4' : decode c.code (pc + 4) = .ok (.ldc is, 2) := by rw [hb]; exact d4
  have hstr' : vk_R own is text sa s' := vk_R.warm hW0 hstr
  obtain ⟨U, hsteps, hrun, hend, hW, hsame, ce, hce, hO⟩ := X₁.ctorThrowS hexec htr (own := own) (cls := cls) (names := names) (ic := ic) hown' hcls hnames h (fun x hx => nomatch hx) hfX hkX hcellA (by rw [hhp, hT]; exact Nat.le_refl _) (msg := .ref sa) rfl
    (g := { method := m, pc := pc + 6, locals := ls, stack := .ref sa :: .ref T.heap.size :: .ref T.heap.size :: rest, locked := none }) rfl hsize rfl rfl (rest := rest) rfl
    (by rw [hb]; exact d6) (by rw [hb]; exact d9) hout hRframes (by simp only [List.map_cons, List.sum_cons, hcat]; omega) hlocks
  obtain ⟨f1, f2⟩ := vx_frame hsame
  rw [hhp] at f1 f2
  have hWs : s.WarmedH U.vm := State.WarmedH.trans hW0 hW
  have hcl : s.vm.findClass cls = some ce.cls := by
    have h9 := hO.cls
    rw [hvm] at h9
    exact h9
  have hall : s.sameButNew ({ U with vm := s.vm } : State) locs mc ms := by
    subst hA
    obtain ⟨e1, e2⟩ := hsame
    rw [State.setFrames_setFrames] at e1
    have h2 : (T.setVm s.vm).sameButNew ({ U with vm := s.vm } : State) [] (0 + 1) (0 + 6) := ⟨e1, e2⟩
    have h3 := X.same.trans h2
    rw [List.append_nil] at h3
    exact h3.mono hc hs
  refine ⟨U, ?_, .threw T.heap.size, hrun, hend, Or.inr ⟨T.heap.size, rfl, cls, ce, locs, hx U hWs.alike f1 (fun q hq => f2 q hq (fun z hz => nomatch hz)), hce, hO.vm, hcl, hWs, hall, hf⟩⟩
  refine st1 _ ?_
  show Steps p.tables e below (T1.setTop { method := m, pc := pc + 3, locals := ls, stack := .ref T.heap.size :: rest, locked := none }) _
  jvm_step X₁.here [X₁.here.top, hexec, d3', Value.category]
  exact X₁.ldcString hexec (own := own) (text := text) (index := is) (a := sa) hown' hstr'.1 hstr'.2
    (g := { method := m, pc := pc + 4, locals := ls, stack := .ref T.heap.size :: .ref T.heap.size :: rest, locked := none }) rfl d4' _ hsteps
/-- 'throw new E("text")', the text by a wide index -/
theorem vx_throwSW {cc : ByteArray} {pc : Nat} (hexec : p.tables.exec = Jvm.exec) (hb : c.code = cc) (hl : l.stackTraces = false) {own cls text : String} {names : List String} {ik is ic mc ms sa : Nat} {A : Nat → Prop}
    (hown : s.vm.findClass own = some m.cls) (hcls : Bundle.fit cls = true) (hnames : ∀ n ∈ names, Bundle.fit n = true)
    (hk : (Cond.classLink own ik cls).before args s = true) (hini : (Cond.initialized cls).before args s = true) (hstr : vk_R own is text sa s) (hat : ∀ w ∈ vx_atS own ic cls names, w.before args s = true)
    (hgood : ∀ w ∈ Cond.classLink own ik cls :: Cond.initialized cls :: vx_atS own ic cls names, vx_ot w = true)
    (hU : vx_Zq Bundle.tN "UNASSIGNED_STACK" Bundle.steD A s s.heap) (hN : vx_Zq Bundle.tN "SUPPRESSED_SENTINEL" Bundle.listD A s s.heap) (hS : va_S A s.heap H locs) (hsize : ls.size = c.maxLocals)
    (d0 : decode cc pc = .ok (.new ik, 3)) (d3 : decode cc (pc + 3) = .ok (.dup, 1)) (d4 : decode cc (pc + 4) = .ok (.ldc_w is, 3)) (d7 : decode cc (pc + 7) = .ok (.invokespecial ic, 3)) (d10 : decode cc (pc + 10) = .ok (.athrow, 1))
    (hout : ∀ x ∈ c.exceptionTable.toList, covers x (pc + 10) = false)
    (hRframes : names.length + 3 < R.frames) (hRlocals : (rest.map fun v => v.category).sum + (13 * (names.length + 1) + 43) ≤ R.locals) (hRcells : cells + 1 ≤ R.cells) (hRslots : slots + 6 ≤ R.slots) (hlocks : meth.locks = false)
    (hx : ∀ t : State, s.vm.Alike t.vm → H.size ≤ t.heap.size → (∀ q : Nat, q < H.size → t.heap[q]? = H[q]?) → XC cls s t)
    (hf : ∀ z ∈ locs, free z.base) (hc : cells + 1 ≤ mc) (hs : slots + 6 ≤ ms) :
    W p l e R s m args below meth c H locs cells slots (vx_MQ below Qc XC args s mc ms free) (F0 m pc ls rest) := by
  intro T hT X
  have htr : e.platform.stackTraces = false := (show e.platform.stackTraces = l.stackTraces by rw [X.admits.platform]).trans hl
  have Y := vx_rebase X (R' := { frames := R.frames, locals := R.locals, cells := 1, slots := 6 }) (Nat.le_refl _) (Nat.le_refl _) hRcells hRslots
  obtain ⟨s', hA⟩ : ∃ z, z = (T.setVm s.vm).setFrames (.invoking m args :: below) := ⟨_, rfl⟩
  rw [← hA] at Y
  have hvm : s'.vm = s.vm := by rw [hA]; rfl
  have hhp : s'.heap = H := by rw [hA]; exact hT
  have hW0 : s.WarmedH s'.vm := by rw [hvm]; exact State.WarmedH.refl s
  have hat' : ∀ w ∈ vx_atS own ic cls names, w.before args s' = true := fun w hw => vx_ot_at hW0 hvm.symm (hgood w (List.mem_cons_of_mem _ (List.mem_cons_of_mem _ hw))) (hat w hw)
  have hk' : (Cond.classLink own ik cls).before args s' = true := vx_ot_at hW0 hvm.symm (hgood _ List.mem_cons_self) hk
  have hini' : (Cond.initialized cls).before args s' = true := vx_ot_at hW0 hvm.symm (hgood _ (List.mem_cons_of_mem _ List.mem_cons_self)) hini
  have hU' : vx_Zq Bundle.tN "UNASSIGNED_STACK" Bundle.steD A s' s'.heap := by rw [hhp]; exact vx_Zq.moved hW0.alike (hU.kept hS.2.1)
  have hN' : vx_Zq Bundle.tN "SUPPRESSED_SENTINEL" Bundle.listD A s' s'.heap := by rw [hhp]; exact vx_Zq.moved hW0.alike (hN.kept hS.2.1)
  have h : ∀ w ∈ Bundle.ownAtoms own ic cls names, w.before args s' = true := vx_own hat' (vx_isRefq hU'.1) (vx_isRefq hN'.1) hU'.2.word hN'.2.word
  have hown' : s'.vm.findClass own = some m.cls := by rw [hvm]; exact hown
  have hins : (Cond.instantiable cls 6).before args s' = true := h _ (by simp [Bundle.ownAtoms])
  obtain ⟨vm₁, cX, kX, hfX, hkX, -, -, X₁, st1⟩ := Y.newCold hexec (own := own) (C := cls) (index := ik) (n := 6) hown' hk' hins hini'
    (g := F0 m pc ls rest) rfl (by rw [hb]; exact d0) (Nat.le_refl _) (Nat.le_refl _)
  generalize hT1 : (T.setVm vm₁).pushCell { cls := cX, slots := kX.instanceTypes.map defaultValue, vm := .none } = T1 at X₁ st1
  have hcat : (Value.ref T.heap.size).category = 1 := rfl
  have hcellA : T1.heap[T.heap.size]? = some (freshCell cX kX) := by rw [← hT1]; exact State.heap_pushCell_size _ _
  have d3' : decode c.code (pc + 3) = .ok (.dup, 1) := by rw [hb]; exact d3
  have d4' : decode c.code (pc + 4) = .ok (.ldc_w is, 3) := by rw [hb]; exact d4
  have hstr' : vk_R own is text sa s' := vk_R.warm hW0 hstr
  obtain ⟨U, hsteps, hrun, hend, hW, hsame, ce, hce, hO⟩ := X₁.ctorThrowS hexec htr (own := own) (cls := cls) (names := names) (ic := ic) hown' hcls hnames h (fun x hx => nomatch hx) hfX hkX hcellA (by rw [hhp, hT]; exact Nat.le_refl _) (msg := .ref sa) rfl
    (g := { method := m, pc := pc + 7, locals := ls, stack := .ref sa :: .ref T.heap.size :: .ref T.heap.size :: rest, locked := none }) rfl hsize rfl rfl (rest := rest) rfl
    (by rw [hb]; exact d7) (by rw [hb]; exact d10) hout hRframes (by simp only [List.map_cons, List.sum_cons, hcat]; omega) hlocks
  obtain ⟨f1, f2⟩ := vx_frame hsame
  rw [hhp] at f1 f2
  have hWs : s.WarmedH U.vm := State.WarmedH.trans hW0 hW
  have hcl : s.vm.findClass cls = some ce.cls := by
    have h9 := hO.cls
    rw [hvm] at h9
    exact h9
  have hall : s.sameButNew ({ U with vm := s.vm } : State) locs mc ms := by
    subst hA
    obtain ⟨e1, e2⟩ := hsame
    rw [State.setFrames_setFrames] at e1
    have h2 : (T.setVm s.vm).sameButNew ({ U with vm := s.vm } : State) [] (0 + 1) (0 + 6) := ⟨e1, e2⟩
    have h3 := X.same.trans h2
    rw [List.append_nil] at h3
    exact h3.mono hc hs
  refine ⟨U, ?_, .threw T.heap.size, hrun, hend, Or.inr ⟨T.heap.size, rfl, cls, ce, locs, hx U hWs.alike f1 (fun q hq => f2 q hq (fun z hz => nomatch hz)), hce, hO.vm, hcl, hWs, hall, hf⟩⟩
  refine st1 _ ?_
  show Steps p.tables e below (T1.setTop { method := m, pc := pc + 3, locals := ls, stack := .ref T.heap.size :: rest, locked := none }) _
  jvm_step X₁.here [X₁.here.top, hexec, d3', Value.category]
  exact X₁.ldcStringW hexec (own := own) (text := text) (index := is) (a := sa) hown' hstr'.1 hstr'.2
    (g := { method := m, pc := pc + 4, locals := ls, stack := .ref T.heap.size :: .ref T.heap.size :: rest, locked := none }) rfl d4' _ hsteps
end Ends
section Bodies
variable {l : Launch}
theorem vx_ofW {y : MethodName} {ws ws' : List Cond} {rm : Room} {Pc : Array Value → State → Prop} {Qc : Array Value → State → Outcome → State → Prop} {XC : String → State → State → Prop} {mc ms : Nat} {free : Addr → Prop} {cc : ByteArray} {maxL : Nat} {ret : Option FieldType}
    (hy : plainName y.cls = true) (hw : ws = Cond.code y cc maxL ret :: ws')
    (body : ∀ p e s m args below meth c s₁, BodyLoose p l y (headSpec ws rm) cc maxL ret e s m args below meth c s₁ → c.maxLocals = maxL → (∀ x ∈ c.exceptionTable.toList, False) → Pc args s →
      W p l e (headSpec ws rm).room s m args below meth c s.heap [] 0 0 (vx_MQ below Qc XC args s mc ms free) (entryFrame m args maxL)) : vx_Met l y ws rm Pc Qc XC mc ms free := by
  refine MetFree.of_bodyS (code := cc) (maxLocals := maxL) (ret := ret) hy ?_ ?_
  · intro args s m h hn
    obtain ⟨meth, c, h1, h2, h3, h4, h5, h6, -, -⟩ := Cond.code_spec hn (atoms_spec (ws := ws) h _ (by rw [hw]; exact List.mem_cons_self))
    exact ⟨meth, c, h1, h2, h3, h4, h5, h6⟩
  · intro p e s m args below meth c s₁ B hml hP _
    have hh0 : s₁.heap = s.heap := by rw [B.state]; rfl
    have ht : ∀ x ∈ c.exceptionTable.toList, False := by
      obtain ⟨meth9, c9, h1, h2, -, -, -, -, h7, -⟩ := Cond.code_spec B.named (atoms_spec (ws := ws) B.pre _ (by rw [hw]; exact List.mem_cons_self))
      cases Option.some.inj (h1.symm.trans B.method)
      cases Option.some.inj (h2.symm.trans (Stand.of_body B).code)
      intro x hx
      rw [Array.isEmpty_iff.mp h7] at hx
      cases hx
    obtain ⟨t, a1, o, b1, b2, b3⟩ := body p e s m args below meth c s₁ B hml ht hP s₁ hh0 (Stand.of_body B)
    exact ⟨t, o, a1, b1, b2, b3⟩
/-- the table of a body with handlers -/
theorem vx_table {p : Program} {x y : MethodName} {S : Spec} {cc bytes : ByteArray} {maxL maxL' : Nat} {ret ret' : Option FieldType} {e : Env} {s s₁ : State} {m : MethodId} {args : Array Value} {below : List Frame} {meth : Method} {c : Code} {hh : List (Nat × Nat × Nat × Nat)}
    (B : BodyLoose p l y S cc maxL ret e s m args below meth c s₁) (h : (Cond.codeWith y bytes maxL' ret' hh).before args s = true) : c.exceptionTable.toList = tableOf hh := by
  obtain ⟨m9, meth9, c9, hn9, h1, h2, -, -, h6, -⟩ := Cond.codeWith_spec h
  cases Option.some.inj (hn9.symm.trans B.named)
  cases Option.some.inj (h1.symm.trans B.method)
  cases Option.some.inj (h2.symm.trans (Stand.of_body B).code)
  rw [← h6, table_eq]
end Bodies
end VXA
/-! ===== END ===== -/
/-! ===== BEGIN a static call of a method with an exception table ===== -/
section VXS
variable {p : Program} {l : Launch} {e : Env} {R : Room} {s : State} {m : MethodId} {args : Array Value} {below : List Frame} {meth : Method} {c : Code} {T : State} {H : Heap} {locs : List Loc} {cells slots : Nat}
abbrev vx_CSW (R : Room) (s : State) (args : Array Value) (own : String) (index : Nat) (y : MethodName) (bytes : ByteArray) (maxL : Nat) (ret : Option FieldType) (hh : List (Nat × Nat × Nat × Nat)) (ws : List Cond) (rm : Room) (mc ms n : Nat) : Prop :=
  (rm.cells = mc ∧ rm.slots = ms ∧ rm.frames + 1 ≤ R.frames ∧ 8 + (maxL + 11) + rm.locals ≤ R.locals ∧ (∀ w ∈ ws, ∀ (a' : Array Value) (U : State), s.WarmedH U.vm → w.before a' U = true) ∧ Cond.codeWith y bytes maxL ret hh ∈ ws) ∧
  (Cond.codeWith y bytes maxL ret hh).before args s = true ∧ (Cond.initialized y.cls).before args s = true ∧ (y.cls ≠ "java/lang/invoke/MethodHandle" ∧ y.cls ≠ "java/lang/invoke/VarHandle") ∧
  (∀ sig, parseMethodDescriptor y.desc = some sig → n = sig.parameters.length) ∧ (Cond.methodLink own index y).before args s = true ∧ (Cond.static y).before args s = true
theorem vx_cwSW {own : String} {index maxL mc ms : Nat} {y : MethodName} {bytes : ByteArray} {ret : Option FieldType} {hh : List (Nat × Nat × Nat × Nat)} {Ts ws ws' : List Cond} {rm : Room} (n : Nat) (ht : ∀ w ∈ Ts, w.before args s = true) (hT : GoodIn Ts (va_wsS own index y ws)) (hw : ws = Cond.codeWith y bytes maxL ret hh :: ws') (hrc : rm.cells = mc) (hrs : rm.slots = ms)
    (hd : y.cls ≠ "java/lang/invoke/MethodHandle" ∧ y.cls ≠ "java/lang/invoke/VarHandle" ∧ (parseMethodDescriptor y.desc).map (fun d => d.parameters.length) = some n) (hR : rm.frames + 1 ≤ R.frames ∧ 8 + (maxL + 11) + rm.locals ≤ R.locals) :
    vx_CSW R s args own index y bytes maxL ret hh ws rm mc ms n := by
  have ok : ∀ w ∈ va_wsS own index y ws, w.before args s = true := fun w h => ht w (hT w h).1
  have hG : GoodIn Ts ws := fun w h => hT w (by unfold va_wsS; exact List.mem_append_right _ h)
  have hc : Cond.codeWith y bytes maxL ret hh ∈ ws := by rw [hw]; exact List.mem_cons_self
  refine ⟨⟨hrc, hrs, hR.1, hR.2, pay_in ht hG, hc⟩, ht _ (hG _ hc).1, ok _ (by simp [va_wsS]), ⟨hd.1, hd.2.1⟩, fun sig h => ?_, ok _ (by simp [va_wsS]), ok _ (by simp [va_wsS])⟩
  have h2 := hd.2.2
  rw [h] at h2
  exact (Option.some.inj h2).symm
theorem vx_callSW (X : Stand p l e R s m args below meth c T locs cells slots) (hexec : p.tables.exec = Jvm.exec) {own : String} {index : Nat} {y : MethodName} {bytes : ByteArray} {maxL : Nat} {ret : Option FieldType} {hh : List (Nat × Nat × Nat × Nat)}
    (hown : s.vm.findClass own = some m.cls) (hlink : (Cond.methodLink own index y).before args s = true) (hstat : (Cond.static y).before args s = true) (hinit : (Cond.initialized y.cls).before args s = true)
    (hcode : (Cond.codeWith y bytes maxL ret hh).before args s = true) (hy : y.cls ≠ "java/lang/invoke/MethodHandle" ∧ y.cls ≠ "java/lang/invoke/VarHandle")
    {W9 : Nat} {Pre : Pt → Array Value → Prop} {Post : Pt → Array Value → Option Value → Pt → Prop} (hK : Back l R p e below s args y 3 W9 Pre Post)
    {g : JFrame} (hg : g.method = m) (hsize : g.locals.size = c.maxLocals) {argsL rest : List Value} (hlen : ∀ sig, parseMethodDescriptor y.desc = some sig → argsL.length = sig.parameters.length)
    (hstack : g.stack = argsL.reverse ++ rest) (hW : 2 * g.monitorRoom + (rest.map fun v => v.category).sum ≤ W9) (hdg : decode c.code g.pc = .ok (.invokestatic index, 3))
    (hpre : ∀ vm₁, s.WarmedH vm₁ → Pre ⟨T.setVm vm₁, locs, cells, slots⟩ argsL.toArray) :
    ∃ (v : Option Value) (vm₁ : Vm) (B : Pt), s.WarmedH vm₁ ∧ Stand p l e R s m args below meth c B.U B.locs B.cells B.slots ∧ Post ⟨T.setVm vm₁, locs, cells, slots⟩ argsL.toArray v B ∧
      ∀ target, Steps p.tables e below (B.U.setTop { g with pc := g.pc + 3, stack := v.toList ++ rest }) target → Steps p.tables e below (T.setTop g) target := by
  obtain ⟨mk, methM, cM, hnamed, hmethM, -, -, -, -, -, -, hsigM⟩ := Cond.codeWith_spec hcode
  have hstatic : methM.isStatic = true := Cond.static_spec hnamed hmethM hstat
  obtain ⟨kP, hkP, -⟩ := className_of_methodNamed hnamed
  have hinitP : kP.init = .initialized := Cond.initialized_spec (findClass_of_methodNamed hnamed) hkP hinit
  obtain ⟨vm₁, X₁, hstep₁⟩ := X.invokestatic hexec hown hlink hnamed hmethM hstatic hkP hinitP hy (g := g) hg (argsL := argsL) (rest := rest) (hlen _ hsigM) hstack hdg
  obtain ⟨v, B, X', hpost, hsteps⟩ := hK m meth c ⟨T.setVm vm₁, locs, cells, slots⟩ { g with stack := rest } (.invokestatic index) mk argsL.toArray X₁ hg hsize hdg hW (X₁.named hnamed) (hpre vm₁ X₁.warmed)
  exact ⟨v, vm₁, B, X₁.warmed, X', hpost, fun target h => hstep₁ _ fun acts => by rw [doInvoke_state]; exact hsteps.trans h⟩
theorem vx_runSW {y : MethodName} {bytes cc : ByteArray} {maxL nL mc ms n index : Nat} {ret : Option FieldType} {hh : List (Nat × Nat × Nat × Nat)} {ws : List Cond} {rm : Room} {Pc : Array Value → State → Prop} {Qc : Array Value → State → Outcome → State → Prop} {free : Addr → Prop} {Ts : List Cond} {own : String} {As rest : List Value} {g : JFrame}
    (S : CallFix p m c cc nL s args Ts own) (hM : Met l y ws rm Pc Qc mc ms free) (cw : vx_CSW R s args own index y bytes maxL ret hh ws rm mc ms n) (hp : PreS s H Pc As)
    (hg : g.method = m) (hn : As.length = n) (hsize : g.locals.size = nL) (hstack : g.stack = As.reverse ++ rest) (hW : 2 * g.monitorRoom + (rest.map fun v => v.category).sum ≤ 8) (hdg : decode cc g.pc = .ok (.invokestatic index, 3)) (hf : cells + mc ≤ R.cells ∧ slots + ms ≤ R.slots) :
    va_Run p l e R s m args below meth c H locs cells slots mc ms g rest (Qc As.toArray) (free) := by
  obtain ⟨⟨hrc, hrs, hfr, hlo, hws, hcw⟩, hcode, hini, hy, hlen, hl, hstt⟩ := cw
  have hK : Back l R p e below s args y 3 8 (PreOf R mc ms Pc) (PostOf Qc mc ms free) := va_backW (hh := hh) (bytes := bytes) (maxL := maxL) (ret := ret) hM hp.1 hrc hrs hfr hlo hws hcw (fun a' U hW => word_at hW (Or.inl (by first | rfl | simp [Cond.onTables, Cond.keeps, Cond.steady])) hini)
  obtain ⟨hx, hb, hml, ho, -⟩ := S
  intro T hT X
  obtain ⟨v, vm₁, ⟨U', l2, c2, s2⟩, hW₁, X', ⟨g', mk, t, L, e1, e2, hq, h1, hL, h2, h3⟩, st⟩ := vx_callSW X hx (hh := hh) (bytes := bytes) (maxL := maxL) (ret := ret) ho hl hstt hini hcode hy hK hg (hsize.trans hml.symm) (argsL := As) (rest := rest) (fun sig h => hn.trans (hlen sig h)) hstack hW (by rw [hb]; exact hdg)
    (fun vm₁ hW₁ => ⟨hf.1, hf.2, hp.2 (T.setVm vm₁) hT hW₁⟩)
  dsimp only [Pt.U, Pt.locs, Pt.cells, Pt.slots] at X' e1 e2 h1 h2 h3 st
  subst h1; subst h2; subst h3
  exact ⟨v, (T.setVm vm₁).calling g' mk As.toArray, t, U', L, hT, X', hL, e1, e2, hq, st⟩
/-- not caught here, past rows that name other classes: it goes on to the caller -/
theorem vx_outP {p : Program} {l : Launch} {e : Env} {R : Room} {s : State} {m : MethodId} {args : Array Value} {below : List Frame} {meth : Method} {c : Code} {H : Heap} {locs : List Loc} {cells slots : Nat} {free : Addr → Prop} {ls : Array Slot} {rest : List Value} {Qc : Array Value → State → Outcome → State → Prop} {XC : String → State → State → Prop}
    {pc : Nat} {own E : String} {ce : Cell} {q : Addr} {mc ms : Nat} (hown : s.vm.findClass own = some m.cls) (hlocks : meth.locks = false)
    (hpass : ∀ z ∈ c.exceptionTable.toList, covers z pc = false ∨ (z.catchType ≠ 0 ∧ ∃ nm : String, (Cond.classLink own z.catchType nm).before args s = true ∧ va_Nc E nm s)) (hcell : H[q]? = some ce) (hv : ce.vm = .none) (hcl : s.vm.findClass E = some ce.cls)
    (hx : ∀ t : State, t.heap = H → s.vm.Alike t.vm → XC E s t) (hf : ∀ z ∈ locs, free z.base) (hc : cells ≤ mc) (hs : slots ≤ ms) :
    vx_W p l e R s m args below meth c H locs cells slots (vx_MQ below Qc XC args s mc ms free) (F0 m pc ls rest) q := by
  intro T hT X
  have hpl : e.platform.magicAccessors = ({} : Platform).magicAccessors := by rw [X.admits.platform]
  obtain ⟨vm', hW', X', st⟩ := X.outThrough hlocks q (g := F0 m pc ls rest) rfl rfl rfl (cell := ce) (by rw [hT]; exact hcell) (by rw [hv]; rfl)
    (by obtain ⟨k9, h9, -⟩ := Vm.findClass_spec hcl; exact ⟨k9, h9⟩) (fun z hz => by
      rcases hpass z hz with h | ⟨hz0, nm, hl1, hn1⟩
      · exact Or.inl h
      · obtain ⟨c6, hc6, hcl6⟩ := Cond.classLink_spec hown hl1 e.platform hpl
        obtain ⟨a8, b8, h1, h2, h3⟩ := hn1
        cases Option.some.inj (h1.symm.trans hcl)
        cases Option.some.inj (h2.symm.trans hc6)
        exact Or.inr ⟨hz0, _, hcl6, h3⟩)
  obtain ⟨g₀, hfr⟩ := X'.frames_eq
  have hcell9 : ((T.setVm vm').setFrames (.throwing q :: below)).heap[q]? = some ce := by
    show T.heap[q]? = some ce
    rw [hT]; exact hcell
  have hend : Ended ((T.setVm vm').setFrames (.throwing q :: below)) below (.threw q) := State.frames_setFrames _ (State.cur_lt_of_frames hfr)
  refine ⟨(T.setVm vm').setFrames (.throwing q :: below), ?_, .threw q, X'.here.running, hend, Or.inr ⟨q, rfl, E, ce, locs, hx _ hT (X'.ends _).1.alike, hcell9, hv, hcl, (X'.ends _).1, (X'.ends _).2.mono hc hs, hf⟩⟩
  rw [X.pushThrowing_eq]
  exact st
/-- a thing of a world lies in the heap -/
theorem vx_lt {D : va_G} {cl : List vw_C} {ws : va_W} {H1 : Heap} (h : va_P D cl ws H1) {k : Nat} {q : Nat × va_E} (hk : ws[k]? = some q) : q.1 < H1.size := (h k q hk).lt
end VXS
/-! ===== END ===== -/
/-! ===== BEGIN methods with a table of their own: called by a name, returning or throwing ===== -/
section VXH
/-! vx_backW, vx_callVX, vx_callSX, vx_callVW, vx_runVW, vx_runVX, vx_runSX, vx_ofWH follow the same proofs as their sisters above (Free/Laws.lean, Shelf42/LK1.lean); vx_outP calls Shelf42/NT130.lean (outThrough). -/
section
variable {l : Launch} {R : Room} {p : Program} {e : Env} {below : List Frame} {s : State} {sargs : Array Value} {y : MethodName} {len W9 : Nat}
theorem vx_backW {ws : List Cond} {rm : Room} {Pc : Array Value → State → Prop} {Qc : Array Value → State → Outcome → State → Prop} {XC : String → State → State → Prop} {mc ms : Nat} {free : Addr → Prop} {bytes : ByteArray} {maxL : Nat} {ret : Option FieldType} {hh : List (Nat × Nat × Nat × Nat)}
    (hM : vx_Met l y ws rm Pc Qc XC mc ms free) (hblind : FrameBlind Pc) (hrc : rm.cells = mc) (hrs : rm.slots = ms)
    (hframes : rm.frames + 1 ≤ R.frames) (hlocals : W9 + (maxL + 11) + rm.locals ≤ R.locals)
    (hws : ∀ w ∈ ws, ∀ a' U, s.WarmedH U.vm → w.before a' U = true) (hcode : Cond.codeWith y bytes maxL ret hh ∈ ws) (hinit : ∀ a' U, s.WarmedH U.vm → (Cond.initialized y.cls).before a' U = true) :
    vx_Back l R p e below s sargs y len W9 (PreOf R mc ms Pc) (PostOf Qc mc ms free) (vx_Post XC mc ms free) := by
  intro m meth c A g ig mk a X hg hsize hdg hW hn hp
  have h1 : (headSpec ws rm).pre.before a A.U = true := atoms_intro fun w hw => hws w hw _ _ X.warmed
  have h2 : (Cond.codeWith y bytes maxL ret hh).before a A.U = true := hws _ hcode _ _ X.warmed
  have h3 : (Cond.initialized y.cls).before a A.U = true := hinit _ _ X.warmed
  have h4 : A.cells + (headSpec ws rm).room.cells ≤ R.cells := by rw [show (headSpec ws rm).room.cells = mc from hrc]; exact hp.1
  have h5 : A.slots + (headSpec ws rm).room.slots ≤ R.slots := by rw [show (headSpec ws rm).room.slots = ms from hrs]; exact hp.2.1
  have hPc : Pc a (A.U.calling g mk a) := hblind _ _ _ _ hp.2.2
  obtain ⟨U, Ls, c0, s0⟩ := A
  dsimp only [Pt.U, Pt.locs, Pt.cells, Pt.slots] at h1 h2 h3 h4 h5 X hn hPc ⊢
  obtain ⟨m9, methY, cY, hn9, hmY, hcY, -, hlY, -⟩ := Cond.codeWith_spec h2
  cases Option.some.inj (hn9.symm.trans hn)
  obtain ⟨kY, hkY, -⟩ := className_of_methodNamed hn
  have hinitY : kY.init = .initialized := Cond.initialized_spec (findClass_of_methodNamed hn) hkY h3
  have h : At U g.method c below := by rw [hg]; exact X.here
  have hlocals9 : W9 + (maxL + 11) + (headSpec ws rm).room.locals ≤ R.locals := hlocals
  have happ : (headSpec ws rm).appliesLoose y e.platform (U.calling g mk a) = true :=
    Spec.appliesLoose_calling (g := g) h hdg hn hkY hinitY
      (X.room_calling (g := g) (R' := (headSpec ws rm).room) hsize hmY hcY hframes (by rw [hlY]; omega) h4 h5) h1
  obtain ⟨mid, hmid⟩ := h.above
  have hfr : (U.setTop g).frames = (.java g :: mid) ++ below := by rw [State.frames_setTop' g h.top, hmid]; rfl
  obtain ⟨o, s₂, hsteps, -, hend, hq⟩ := Steps.callFree hM p X.admits X.cas X.clock (acts := []) hfr happ hPc trivial
  have hq' : vx_Q Qc XC mc ms free a (U.calling g mk a) o s₂ := hq
  rw [State.frames_setTop' g h.top] at hend
  obtain ⟨g₀, hg0⟩ := Option.isSome_iff_exists.mp h.top
  obtain ⟨r, hr⟩ := State.topJava?_eq_some.mp hg0
  have hr' : (({ U with heap := s₂.heap, slotsUsed := s₂.slotsUsed } : State).setVm s₂.vm).frames = .java g₀ :: r := hr
  rcases hq' with ⟨hqc, L, hfe, hL⟩ | ⟨q, rfl, E, ce, L, hx, hce, hcv, hcl, hW₂, hsm, hL⟩
  · obtain ⟨⟨v, rfl⟩, hW₂, e2, q2, q3, q4, q5, q6⟩ := id hfe
    have e3 : s₂ = ({ (U.calling g mk a).setFrames s₂.frames with heap := s₂.heap, slotsUsed := s₂.slotsUsed } : State).setVm s₂.vm := by
      have : s₂ = ({ s₂ with vm := (U.calling g mk a).vm } : State).setVm s₂.vm := rfl
      rw [e2] at this
      exact this
    obtain ⟨c₂, i₂, len₂, hc₂, hd₂, hf₂⟩ := hend
    have hW' : U.WarmedH s₂.vm := hW₂
    have hcc : c₂ = c := by
      have h1 : s₂.code? g.method = U.code? g.method := by
        rw [State.code?_eq, State.code?_eq, hW'.alike.method?]
      exact Option.some.inj (hc₂.symm.trans (h1.trans h.code))
    subst hcc
    have hlen : len₂ = len := by rw [hdg] at hd₂; cases hd₂; rfl
    subst hlen
    have hs₂ : s₂ = (({ U with heap := s₂.heap, slotsUsed := s₂.slotsUsed } : State).setVm s₂.vm).setTop { g with pc := g.pc + len₂, stack := v.toList ++ g.stack } := by
      refine e3.trans ?_
      rw [hf₂, State.calling_eq h.top, State.setFrames_setFrames, State.setTop_of_frames _ hr', hr]
      rfl
    have hsame : U.sameButNew ({ U with heap := s₂.heap, slotsUsed := s₂.slotsUsed } : State) L mc ms := by
      refine ⟨?_, q2, q3, q4, q5, q6⟩
      obtain ⟨t, ht, -⟩ := State.frames_cons hr
      show ({ U with heap := s₂.heap, slotsUsed := s₂.slotsUsed } : State) = { U.setFrames U.frames with heap := s₂.heap, slotsUsed := s₂.slotsUsed }
      rw [State.setFrames_self ht]
    subst hg
    refine Or.inl ⟨v, ⟨(({ U with heap := s₂.heap, slotsUsed := s₂.slotsUsed } : State).setVm s₂.vm), Ls ++ L, c0 + mc, s0 + ms⟩,
      ⟨X.admits, X.cas, X.clock, X.frames, X.room, X.hears, X.method, X.code, (X.here.setHeapUsed s₂.heap s₂.slotsUsed).setVm hW'.alike, X.tail, State.WarmedH.trans X.warmed hW', X.limits, X.bytes, X.same.trans (hsame.setVm s.vm)⟩,
      ⟨g, mk, s₂, L, rfl, rfl, hqc, rfl, hL, rfl, rfl⟩, ?_⟩
    show Steps p.tables e below _ ((({ U with heap := s₂.heap, slotsUsed := s₂.slotsUsed } : State).setVm s₂.vm).setTop { g with pc := g.pc + len₂, stack := v.toList ++ g.stack })
    rw [← hs₂]
    exact hsteps
  · obtain ⟨e2, q2, q3, q4, q5, q6⟩ := id hsm
    have e3 : s₂ = ({ (U.calling g mk a).setFrames s₂.frames with heap := s₂.heap, slotsUsed := s₂.slotsUsed } : State).setVm s₂.vm := by
      have : s₂ = ({ s₂ with vm := (U.calling g mk a).vm } : State).setVm s₂.vm := rfl
      rw [e2] at this
      exact this
    have hf₂ : s₂.frames = .throwing q :: .java g :: U.frames.tail := hend
    have hW' : U.WarmedH s₂.vm := hW₂
    have hs₂ : s₂ = ((({ U with heap := s₂.heap, slotsUsed := s₂.slotsUsed } : State).setVm s₂.vm).setTop g).pushFrame (.throwing q) := by
      refine e3.trans ?_
      rw [hf₂, State.calling_eq h.top, State.setFrames_setFrames, State.pushFrame, State.frames_setTop _ hr', State.setTop_of_frames _ hr', State.setFrames_setFrames, hr]
      rfl
    have hsame : U.sameButNew ({ U with heap := s₂.heap, slotsUsed := s₂.slotsUsed } : State) L mc ms := by
      refine ⟨?_, q2, q3, q4, q5, q6⟩
      obtain ⟨t, ht, -⟩ := State.frames_cons hr
      show ({ U with heap := s₂.heap, slotsUsed := s₂.slotsUsed } : State) = { U.setFrames U.frames with heap := s₂.heap, slotsUsed := s₂.slotsUsed }
      rw [State.setFrames_self ht]
    subst hg
    refine Or.inr ⟨q, ⟨(({ U with heap := s₂.heap, slotsUsed := s₂.slotsUsed } : State).setVm s₂.vm), Ls ++ L, c0 + mc, s0 + ms⟩,
      ⟨X.admits, X.cas, X.clock, X.frames, X.room, X.hears, X.method, X.code, (X.here.setHeapUsed s₂.heap s₂.slotsUsed).setVm hW'.alike, X.tail, State.WarmedH.trans X.warmed hW', X.limits, X.bytes, X.same.trans (hsame.setVm s.vm)⟩,
      ⟨g, mk, s₂, L, E, ce, rfl, rfl, hx, hce, hcv, hcl, rfl, hL, rfl, rfl⟩, ?_⟩
    show Steps p.tables e below _ (((({ U with heap := s₂.heap, slotsUsed := s₂.slotsUsed } : State).setVm s₂.vm).setTop g).pushFrame (.throwing q))
    rw [← hs₂]
    exact hsteps
end
variable {p : Program} {l : Launch} {e : Env} {R : Room} {s : State} {m : MethodId} {args : Array Value} {below : List Frame} {meth : Method} {c : Code} {T : State} {H : Heap} {locs : List Loc} {cells slots : Nat}
theorem vx_callVX (X : Stand p l e R s m args below meth c T locs cells slots) (hexec : p.tables.exec = Jvm.exec) {own C : String} {index : Nat} {y : MethodName} {bytes : ByteArray} {maxL : Nat} {ret : Option FieldType} {hh : List (Nat × Nat × Nat × Nat)}
    (hown : s.vm.findClass own = some m.cls) (hlink : (Cond.methodLink own index y).before args s = true) (hinst : (Cond.instanceMethod y).before args s = true) (hsel : (Cond.selects C y y).before args s = true)
    (hcode : (Cond.codeWith y bytes maxL ret hh).before args s = true) (hy : y.cls ≠ "java/lang/invoke/MethodHandle" ∧ y.cls ≠ "java/lang/invoke/VarHandle")
    {W9 : Nat} {Pre : Pt → Array Value → Prop} {Post : Pt → Array Value → Option Value → Pt → Prop} {PostX : Pt → Array Value → Addr → Pt → Prop} (hK : vx_Back l R p e below s args y 3 W9 Pre Post PostX)
    {b : Addr} {cellB : Cell} (hcell : T.heap[b]? = some cellB) (hobj : cellB.vm.isStatics = false) (hcls : s.vm.findClass C = some cellB.cls)
    {g : JFrame} (hg : g.method = m) (hsize : g.locals.size = c.maxLocals) {argsL rest : List Value} (hlen : ∀ sig, parseMethodDescriptor y.desc = some sig → argsL.length = sig.parameters.length)
    (hstack : g.stack = argsL.reverse ++ .ref b :: rest) (hW : 2 * g.monitorRoom + (rest.map fun v => v.category).sum ≤ W9) (hdg : decode c.code g.pc = .ok (.invokevirtual index, 3))
    (hpre : ∀ vm₁, s.WarmedH vm₁ → Pre ⟨T.setVm vm₁, locs, cells, slots⟩ (Value.ref b :: argsL).toArray) :
    (∃ (v : Option Value) (vm₁ : Vm) (B : Pt), s.WarmedH vm₁ ∧ Stand p l e R s m args below meth c B.U B.locs B.cells B.slots ∧ Post ⟨T.setVm vm₁, locs, cells, slots⟩ (Value.ref b :: argsL).toArray v B ∧
      ∀ target, Steps p.tables e below (B.U.setTop { g with pc := g.pc + 3, stack := v.toList ++ rest }) target → Steps p.tables e below (T.setTop g) target) ∨
    (∃ (q : Addr) (vm₁ : Vm) (B : Pt), s.WarmedH vm₁ ∧ Stand p l e R s m args below meth c B.U B.locs B.cells B.slots ∧ PostX ⟨T.setVm vm₁, locs, cells, slots⟩ (Value.ref b :: argsL).toArray q B ∧
      Steps p.tables e below (T.setTop g) ((B.U.setTop { g with stack := rest }).pushFrame (.throwing q))) := by
  obtain ⟨mk, methM, hnamed, hmethM, hstM, habM⟩ := Cond.instanceMethod_spec hinst
  obtain ⟨m8, methM', cM, hn8, hmethM', -, -, -, -, -, -, hsigM⟩ := Cond.codeWith_spec hcode
  cases Option.some.inj (hn8.symm.trans hnamed)
  cases hmethM.symm.trans hmethM'
  obtain ⟨c2, r2, m2, q1, q2, q3, q4, kP, hkP, hkPi⟩ := Cond.selects_spec hsel
  cases hcls.symm.trans q1
  cases (State.methodFound?_of_named hnamed hy).symm.trans q2
  cases hnamed.symm.trans q3
  have hselP : selectMethod e.platform s.vm cellB.cls mk = .method mk := by rw [Launch.admits_selectMethod X.admits]; exact q4
  obtain ⟨vm₁, X₁, hstep₁⟩ := X.invokevirtual hexec hown hlink hnamed hmethM hstM hkP hkPi hy (a := b) (cell := cellB) hcell
    (fun z h => by rw [h] at hobj; cases hobj) hselP hmethM habM hkP hkPi (g := g) hg (argsL := argsL) (rest := rest) (hlen _ hsigM) hstack hdg
  rcases hK m meth c ⟨T.setVm vm₁, locs, cells, slots⟩ { g with stack := rest } (.invokevirtual index) mk (Value.ref b :: argsL).toArray X₁ hg hsize hdg hW (X₁.named hnamed) (hpre vm₁ X₁.warmed) with ⟨v, B, X', hpost, hsteps⟩ | ⟨q, B, X', hpost, hsteps⟩
  · exact Or.inl ⟨v, vm₁, B, X₁.warmed, X', hpost, fun target h => hstep₁ _ fun acts => by rw [doInvoke_state]; exact hsteps.trans h⟩
  · exact Or.inr ⟨q, vm₁, B, X₁.warmed, X', hpost, hstep₁ _ fun acts => by rw [doInvoke_state]; exact hsteps⟩
theorem vx_callSX (X : Stand p l e R s m args below meth c T locs cells slots) (hexec : p.tables.exec = Jvm.exec) {own : String} {index : Nat} {y : MethodName} {bytes : ByteArray} {maxL : Nat} {ret : Option FieldType} {hh : List (Nat × Nat × Nat × Nat)}
    (hown : s.vm.findClass own = some m.cls) (hlink : (Cond.methodLink own index y).before args s = true) (hstat : (Cond.static y).before args s = true) (hinit : (Cond.initialized y.cls).before args s = true)
    (hcode : (Cond.codeWith y bytes maxL ret hh).before args s = true) (hy : y.cls ≠ "java/lang/invoke/MethodHandle" ∧ y.cls ≠ "java/lang/invoke/VarHandle")
    {W9 : Nat} {Pre : Pt → Array Value → Prop} {Post : Pt → Array Value → Option Value → Pt → Prop} {PostX : Pt → Array Value → Addr → Pt → Prop} (hK : vx_Back l R p e below s args y 3 W9 Pre Post PostX)
    {g : JFrame} (hg : g.method = m) (hsize : g.locals.size = c.maxLocals) {argsL rest : List Value} (hlen : ∀ sig, parseMethodDescriptor y.desc = some sig → argsL.length = sig.parameters.length)
    (hstack : g.stack = argsL.reverse ++ rest) (hW : 2 * g.monitorRoom + (rest.map fun v => v.category).sum ≤ W9) (hdg : decode c.code g.pc = .ok (.invokestatic index, 3))
    (hpre : ∀ vm₁, s.WarmedH vm₁ → Pre ⟨T.setVm vm₁, locs, cells, slots⟩ argsL.toArray) :
    (∃ (v : Option Value) (vm₁ : Vm) (B : Pt), s.WarmedH vm₁ ∧ Stand p l e R s m args below meth c B.U B.locs B.cells B.slots ∧ Post ⟨T.setVm vm₁, locs, cells, slots⟩ argsL.toArray v B ∧
      ∀ target, Steps p.tables e below (B.U.setTop { g with pc := g.pc + 3, stack := v.toList ++ rest }) target → Steps p.tables e below (T.setTop g) target) ∨
    (∃ (q : Addr) (vm₁ : Vm) (B : Pt), s.WarmedH vm₁ ∧ Stand p l e R s m args below meth c B.U B.locs B.cells B.slots ∧ PostX ⟨T.setVm vm₁, locs, cells, slots⟩ argsL.toArray q B ∧
      Steps p.tables e below (T.setTop g) ((B.U.setTop { g with stack := rest }).pushFrame (.throwing q))) := by
  obtain ⟨mk, methM, cM, hnamed, hmethM, -, -, -, -, -, -, hsigM⟩ := Cond.codeWith_spec hcode
  have hstatic : methM.isStatic = true := Cond.static_spec hnamed hmethM hstat
  obtain ⟨kP, hkP, -⟩ := className_of_methodNamed hnamed
  have hinitP : kP.init = .initialized := Cond.initialized_spec (findClass_of_methodNamed hnamed) hkP hinit
  obtain ⟨vm₁, X₁, hstep₁⟩ := X.invokestatic hexec hown hlink hnamed hmethM hstatic hkP hinitP hy (g := g) hg (argsL := argsL) (rest := rest) (hlen _ hsigM) hstack hdg
  rcases hK m meth c ⟨T.setVm vm₁, locs, cells, slots⟩ { g with stack := rest } (.invokestatic index) mk argsL.toArray X₁ hg hsize hdg hW (X₁.named hnamed) (hpre vm₁ X₁.warmed) with ⟨v, B, X', hpost, hsteps⟩ | ⟨q, B, X', hpost, hsteps⟩
  · exact Or.inl ⟨v, vm₁, B, X₁.warmed, X', hpost, fun target h => hstep₁ _ fun acts => by rw [doInvoke_state]; exact hsteps.trans h⟩
  · exact Or.inr ⟨q, vm₁, B, X₁.warmed, X', hpost, hstep₁ _ fun acts => by rw [doInvoke_state]; exact hsteps⟩
theorem vx_callVW (X : Stand p l e R s m args below meth c T locs cells slots) (hexec : p.tables.exec = Jvm.exec) {own C : String} {index : Nat} {y : MethodName} {bytes : ByteArray} {maxL : Nat} {ret : Option FieldType} {hh : List (Nat × Nat × Nat × Nat)}
    (hown : s.vm.findClass own = some m.cls) (hlink : (Cond.methodLink own index y).before args s = true) (hinst : (Cond.instanceMethod y).before args s = true) (hsel : (Cond.selects C y y).before args s = true)
    (hcode : (Cond.codeWith y bytes maxL ret hh).before args s = true) (hy : y.cls ≠ "java/lang/invoke/MethodHandle" ∧ y.cls ≠ "java/lang/invoke/VarHandle")
    {W9 : Nat} {Pre : Pt → Array Value → Prop} {Post : Pt → Array Value → Option Value → Pt → Prop} (hK : Back l R p e below s args y 3 W9 Pre Post)
    {b : Addr} {cellB : Cell} (hcell : T.heap[b]? = some cellB) (hobj : cellB.vm.isStatics = false) (hcls : s.vm.findClass C = some cellB.cls)
    {g : JFrame} (hg : g.method = m) (hsize : g.locals.size = c.maxLocals) {argsL rest : List Value} (hlen : ∀ sig, parseMethodDescriptor y.desc = some sig → argsL.length = sig.parameters.length)
    (hstack : g.stack = argsL.reverse ++ .ref b :: rest) (hW : 2 * g.monitorRoom + (rest.map fun v => v.category).sum ≤ W9) (hdg : decode c.code g.pc = .ok (.invokevirtual index, 3))
    (hpre : ∀ vm₁, s.WarmedH vm₁ → Pre ⟨T.setVm vm₁, locs, cells, slots⟩ (Value.ref b :: argsL).toArray) :
    ∃ (v : Option Value) (vm₁ : Vm) (B : Pt), s.WarmedH vm₁ ∧ Stand p l e R s m args below meth c B.U B.locs B.cells B.slots ∧ Post ⟨T.setVm vm₁, locs, cells, slots⟩ (Value.ref b :: argsL).toArray v B ∧
      ∀ target, Steps p.tables e below (B.U.setTop { g with pc := g.pc + 3, stack := v.toList ++ rest }) target → Steps p.tables e below (T.setTop g) target := by
  obtain ⟨mk, methM, hnamed, hmethM, hstM, habM⟩ := Cond.instanceMethod_spec hinst
  obtain ⟨m8, methM', cM, hn8, hmethM', -, -, -, -, -, -, hsigM⟩ := Cond.codeWith_spec hcode
  cases Option.some.inj (hn8.symm.trans hnamed)
  cases hmethM.symm.trans hmethM'
  obtain ⟨c2, r2, m2, q1, q2, q3, q4, kP, hkP, hkPi⟩ := Cond.selects_spec hsel
  cases hcls.symm.trans q1
  cases (State.methodFound?_of_named hnamed hy).symm.trans q2
  cases hnamed.symm.trans q3
  have hselP : selectMethod e.platform s.vm cellB.cls mk = .method mk := by rw [Launch.admits_selectMethod X.admits]; exact q4
  obtain ⟨vm₁, X₁, hstep₁⟩ := X.invokevirtual hexec hown hlink hnamed hmethM hstM hkP hkPi hy (a := b) (cell := cellB) hcell
    (fun z h => by rw [h] at hobj; cases hobj) hselP hmethM habM hkP hkPi (g := g) hg (argsL := argsL) (rest := rest) (hlen _ hsigM) hstack hdg
  obtain ⟨v, B, X', hpost, hsteps⟩ := hK m meth c ⟨T.setVm vm₁, locs, cells, slots⟩ { g with stack := rest } (.invokevirtual index) mk (Value.ref b :: argsL).toArray X₁ hg hsize hdg hW (X₁.named hnamed) (hpre vm₁ X₁.warmed)
  exact ⟨v, vm₁, B, X₁.warmed, X', hpost, fun target h => hstep₁ _ fun acts => by rw [doInvoke_state]; exact hsteps.trans h⟩
abbrev vx_CVW (R : Room) (s : State) (args : Array Value) (own C : String) (index : Nat) (y : MethodName) (bytes : ByteArray) (maxL : Nat) (ret : Option FieldType) (hh : List (Nat × Nat × Nat × Nat)) (ws : List Cond) (rm : Room) (mc ms n : Nat) : Prop :=
  (rm.cells = mc ∧ rm.slots = ms ∧ rm.frames + 1 ≤ R.frames ∧ 8 + (maxL + 11) + rm.locals ≤ R.locals ∧ (∀ w ∈ ws, ∀ (a' : Array Value) (U : State), s.WarmedH U.vm → w.before a' U = true) ∧ Cond.codeWith y bytes maxL ret hh ∈ ws) ∧
  (Cond.codeWith y bytes maxL ret hh).before args s = true ∧ (Cond.initialized y.cls).before args s = true ∧ (y.cls ≠ "java/lang/invoke/MethodHandle" ∧ y.cls ≠ "java/lang/invoke/VarHandle") ∧
  (∀ sig, parseMethodDescriptor y.desc = some sig → n = sig.parameters.length) ∧ (Cond.methodLink own index y).before args s = true ∧ (Cond.instanceMethod y).before args s = true ∧ (Cond.selects C y y).before args s = true
theorem vx_cwVW {own C : String} {index maxL mc ms : Nat} {y : MethodName} {bytes : ByteArray} {ret : Option FieldType} {hh : List (Nat × Nat × Nat × Nat)} {Ts ws ws' : List Cond} {rm : Room} (n : Nat) (ht : ∀ w ∈ Ts, w.before args s = true) (hT : GoodIn Ts (wsV own index C y ws)) (hw : ws = Cond.codeWith y bytes maxL ret hh :: ws') (hrc : rm.cells = mc) (hrs : rm.slots = ms)
    (hd : y.cls = C ∧ y.cls ≠ "java/lang/invoke/MethodHandle" ∧ y.cls ≠ "java/lang/invoke/VarHandle" ∧ (parseMethodDescriptor y.desc).map (fun d => d.parameters.length) = some n) (hR : rm.frames + 1 ≤ R.frames ∧ 8 + (maxL + 11) + rm.locals ≤ R.locals) :
    vx_CVW R s args own C index y bytes maxL ret hh ws rm mc ms n := by
  obtain ⟨hC, hd⟩ := hd
  subst hC
  have ok : ∀ w ∈ wsV own index y.cls y ws, w.before args s = true := fun w h => ht w (hT w h).1
  have hG : GoodIn Ts ws := fun w h => hT w (by unfold wsV; exact List.mem_append_right _ h)
  have hc : Cond.codeWith y bytes maxL ret hh ∈ ws := by rw [hw]; exact List.mem_cons_self
  refine ⟨⟨hrc, hrs, hR.1, hR.2, pay_in ht hG, hc⟩, ht _ (hG _ hc).1, ok _ (by simp [wsV]), ⟨hd.1, hd.2.1⟩, fun sig h => ?_, ok _ (by simp [wsV]), ok _ (by simp [wsV]), ok _ (by simp [wsV])⟩
  have h2 := hd.2.2
  rw [h] at h2
  exact (Option.some.inj h2).symm
theorem vx_runVW {y : MethodName} {bytes cc : ByteArray} {maxL nL mc ms n index : Nat} {ret : Option FieldType} {hh : List (Nat × Nat × Nat × Nat)} {ws : List Cond} {rm : Room} {Pc : Array Value → State → Prop} {Qc : Array Value → State → Outcome → State → Prop} {free : Addr → Prop} {Ts : List Cond} {own C : String} {b : Addr} {As rest : List Value} {g : JFrame}
    (S : CallFix p m c cc nL s args Ts own) (hM : Met l y ws rm Pc Qc mc ms free) (cw : vx_CVW R s args own C index y bytes maxL ret hh ws rm mc ms n) (hp : PreV s H C b Pc As)
    (hg : g.method = m) (hn : As.length = n) (hsize : g.locals.size = nL) (hstack : g.stack = As.reverse ++ .ref b :: rest) (hW : 2 * g.monitorRoom + (rest.map fun v => v.category).sum ≤ 8) (hdg : decode cc g.pc = .ok (.invokevirtual index, 3)) (hf : cells + mc ≤ R.cells ∧ slots + ms ≤ R.slots) :
    va_Run p l e R s m args below meth c H locs cells slots mc ms g rest (Qc (Value.ref b :: As).toArray) free := by
  obtain ⟨⟨hrc, hrs, hfr, hlo, hws, hcw⟩, hcode, hini, hy, hlen, hl, hin, hse⟩ := cw
  have hK : Back l R p e below s args y 3 8 (PreOf R mc ms Pc) (PostOf Qc mc ms free) := va_backW (hh := hh) (bytes := bytes) (maxL := maxL) (ret := ret) hM hp.1 hrc hrs hfr hlo hws hcw (fun a' U hW => word_at hW (Or.inl (by first | rfl | simp [Cond.onTables, Cond.keeps, Cond.steady])) hini)
  obtain ⟨hx, hb, hml, ho, -⟩ := S
  obtain ⟨-, ⟨cellB, hcB, hoB, hclB⟩, hPc⟩ := hp
  intro T hT X
  obtain ⟨v, vm₁, ⟨U', l2, c2, s2⟩, hW₁, X', ⟨g', mk, t, L, e1, e2, hq, h1, hL, h2, h3⟩, st⟩ := vx_callVW X hx (C := C) (hh := hh) (bytes := bytes) (maxL := maxL) (ret := ret) ho hl hin hse hcode hy hK (by rw [hT]; exact hcB) hoB hclB hg (hsize.trans hml.symm) (argsL := As) (rest := rest) (fun sig h => hn.trans (hlen sig h)) hstack hW (by rw [hb]; exact hdg)
    (fun vm₁ hW₁ => ⟨hf.1, hf.2, hPc (T.setVm vm₁) hT hW₁⟩)
  dsimp only [Pt.U, Pt.locs, Pt.cells, Pt.slots] at X' e1 e2 h1 h2 h3 st
  subst h1; subst h2; subst h3
  exact ⟨v, (T.setVm vm₁).calling g' mk (Value.ref b :: As).toArray, t, U', L, hT, X', hL, e1, e2, hq, st⟩
section
variable {y : MethodName} {bytes cc : ByteArray} {maxL nL mc ms n index : Nat} {ret : Option FieldType} {ws : List Cond} {rm : Room} {Pc : Array Value → State → Prop} {Qc : Array Value → State → Outcome → State → Prop} {XC : String → State → State → Prop} {free : Addr → Prop} {Ts : List Cond} {own C : String} {b : Addr} {As rest : List Value} {g : JFrame}
theorem vx_runVX {hh : List (Nat × Nat × Nat × Nat)} (S : CallFix p m c cc nL s args Ts own) (hM : vx_Met l y ws rm Pc Qc XC mc ms free) (cw : vx_CVW R s args own C index y bytes maxL ret hh ws rm mc ms n) (hp : PreV s H C b Pc As)
    (hg : g.method = m) (hn : As.length = n) (hsize : g.locals.size = nL) (hstack : g.stack = As.reverse ++ .ref b :: rest) (hW : 2 * g.monitorRoom + (rest.map fun v => v.category).sum ≤ 8) (hdg : decode cc g.pc = .ok (.invokevirtual index, 3)) (hf : cells + mc ≤ R.cells ∧ slots + ms ≤ R.slots) :
    vx_Run p l e R s m args below meth c H locs cells slots mc ms g rest (Qc (Value.ref b :: As).toArray) XC free := by
  obtain ⟨⟨hrc, hrs, hfr, hlo, hws, hcw⟩, hcode, hini, hy, hlen, hl, hin, hse⟩ := cw
  have hK : vx_Back l R p e below s args y 3 8 (PreOf R mc ms Pc) (PostOf Qc mc ms free) (vx_Post XC mc ms free) := vx_backW (hh := hh) (bytes := bytes) (maxL := maxL) (ret := ret) hM hp.1 hrc hrs hfr hlo hws hcw (fun a' U hW => word_at hW (Or.inl (by first | rfl | simp [Cond.onTables, Cond.keeps, Cond.steady])) hini)
  obtain ⟨hx, hb, hml, ho, -⟩ := S
  obtain ⟨-, ⟨cellB, hcB, hoB, hclB⟩, hPc⟩ := hp
  intro T hT X
  rcases vx_callVX X hx (C := C) (hh := hh) (bytes := bytes) (maxL := maxL) (ret := ret) ho hl hin hse hcode hy hK (by rw [hT]; exact hcB) hoB hclB hg (hsize.trans hml.symm) (argsL := As) (rest := rest) (fun sig h => hn.trans (hlen sig h)) hstack hW (by rw [hb]; exact hdg)
    (fun vm₁ hW₁ => ⟨hf.1, hf.2, hPc (T.setVm vm₁) hT hW₁⟩) with ⟨v, vm₁, ⟨U', l2, c2, s2⟩, hW₁, X', ⟨g', mk, t, L, e1, e2, hq, h1, hL, h2, h3⟩, st⟩ | ⟨q, vm₁, ⟨U', l2, c2, s2⟩, hW₁, X', ⟨g', mk, t, L, E, ce, e1, e2, hq, hce, hcv, hcl, h1, hL, h2, h3⟩, st⟩
  · dsimp only [Pt.U, Pt.locs, Pt.cells, Pt.slots] at X' e1 e2 h1 h2 h3 st
    subst h1; subst h2; subst h3
    exact Or.inl ⟨v, (T.setVm vm₁).calling g' mk (Value.ref b :: As).toArray, t, U', L, hT, X', hL, e1, e2, hq, st⟩
  · dsimp only [Pt.U, Pt.locs, Pt.cells, Pt.slots] at X' e1 e2 h1 h2 h3 st hcl
    subst h1; subst h2; subst h3
    exact Or.inr ⟨q, (T.setVm vm₁).calling g' mk (Value.ref b :: As).toArray, t, U', L, E, ce, hT, X', hL, e1, e2, hq, hce, hcv, vx_cls hW₁ hcl, st⟩
theorem vx_runSX {hh : List (Nat × Nat × Nat × Nat)} (S : CallFix p m c cc nL s args Ts own) (hM : vx_Met l y ws rm Pc Qc XC mc ms free) (cw : vx_CSW R s args own index y bytes maxL ret hh ws rm mc ms n) (hp : PreS s H Pc As)
    (hg : g.method = m) (hn : As.length = n) (hsize : g.locals.size = nL) (hstack : g.stack = As.reverse ++ rest) (hW : 2 * g.monitorRoom + (rest.map fun v => v.category).sum ≤ 8) (hdg : decode cc g.pc = .ok (.invokestatic index, 3)) (hf : cells + mc ≤ R.cells ∧ slots + ms ≤ R.slots) :
    vx_Run p l e R s m args below meth c H locs cells slots mc ms g rest (Qc As.toArray) XC free := by
  obtain ⟨⟨hrc, hrs, hfr, hlo, hws, hcw⟩, hcode, hini, hy, hlen, hl, hstt⟩ := cw
  have hK : vx_Back l R p e below s args y 3 8 (PreOf R mc ms Pc) (PostOf Qc mc ms free) (vx_Post XC mc ms free) := vx_backW (hh := hh) (bytes := bytes) (maxL := maxL) (ret := ret) hM hp.1 hrc hrs hfr hlo hws hcw (fun a' U hW => word_at hW (Or.inl (by first | rfl | simp [Cond.onTables, Cond.keeps, Cond.steady])) hini)
  obtain ⟨hx, hb, hml, ho, -⟩ := S
  intro T hT X
  rcases vx_callSX X hx (hh := hh) (bytes := bytes) (maxL := maxL) (ret := ret) ho hl hstt hini hcode hy hK hg (hsize.trans hml.symm) (argsL := As) (rest := rest) (fun sig h => hn.trans (hlen sig h)) hstack hW (by rw [hb]; exact hdg)
    (fun vm₁ hW₁ => ⟨hf.1, hf.2, hp.2 (T.setVm vm₁) hT hW₁⟩) with ⟨v, vm₁, ⟨U', l2, c2, s2⟩, hW₁, X', ⟨g', mk, t, L, e1, e2, hq, h1, hL, h2, h3⟩, st⟩ | ⟨q, vm₁, ⟨U', l2, c2, s2⟩, hW₁, X', ⟨g', mk, t, L, E, ce, e1, e2, hq, hce, hcv, hcl, h1, hL, h2, h3⟩, st⟩
  · dsimp only [Pt.U, Pt.locs, Pt.cells, Pt.slots] at X' e1 e2 h1 h2 h3 st
    subst h1; subst h2; subst h3
    exact Or.inl ⟨v, (T.setVm vm₁).calling g' mk As.toArray, t, U', L, hT, X', hL, e1, e2, hq, st⟩
  · dsimp only [Pt.U, Pt.locs, Pt.cells, Pt.slots] at X' e1 e2 h1 h2 h3 st hcl
    subst h1; subst h2; subst h3
    exact Or.inr ⟨q, (T.setVm vm₁).calling g' mk As.toArray, t, U', L, E, ce, hT, X', hL, e1, e2, hq, hce, hcv, vx_cls hW₁ hcl, st⟩
end
end VXH
theorem vx_ofWH {l : Launch} {y : MethodName} {ws ws' : List Cond} {rm : Room} {Pc : Array Value → State → Prop} {Qc : Array Value → State → Outcome → State → Prop} {XC : String → State → State → Prop} {mc ms : Nat} {free : Addr → Prop} {cc : ByteArray} {maxL : Nat} {ret : Option FieldType} {hh : List (Nat × Nat × Nat × Nat)}
    (hy : plainName y.cls = true) (hw : ws = Cond.codeWith y cc maxL ret hh :: ws')
    (body : ∀ p e s m args below meth c s₁, BodyLoose p l y (headSpec ws rm) cc maxL ret e s m args below meth c s₁ → c.maxLocals = maxL → Pc args s →
      W p l e (headSpec ws rm).room s m args below meth c s.heap [] 0 0 (vx_MQ below Qc XC args s mc ms free) (entryFrame m args maxL)) : vx_Met l y ws rm Pc Qc XC mc ms free := by
  refine MetFree.of_bodyS (code := cc) (maxLocals := maxL) (ret := ret) hy ?_ ?_
  · intro args s m h hn
    obtain ⟨m9, meth, c, hn9, h1, h2, h3, h4, -, h5, h6, -⟩ := Cond.codeWith_spec (atoms_spec (ws := ws) h _ (by rw [hw]; exact List.mem_cons_self))
    cases hn.symm.trans hn9
    exact ⟨meth, c, h1, h2, h3, h4, h5, h6⟩
  · intro p e s m args below meth c s₁ B hml hP _
    have hh0 : s₁.heap = s.heap := by rw [B.state]; rfl
    obtain ⟨t, a1, o, b1, b2, b3⟩ := body p e s m args below meth c s₁ B hml hP s₁ hh0 (Stand.of_body B)
    exact ⟨t, o, a1, b1, b2, b3⟩
/-! ===== END ===== -/
end
section
def cn_C : String := "HydrantRows"
def cf_C : u_T := fun k => match k with
  | 0 => ("HydrantRows", "hydrantRow", "[LHydrantRows$Hydrant;", true)
  | 1 => ("HydrantRows", "testRow", "[LHydrantRows$Test;", true)
  | 2 => ("HydrantRows", "limits", "[I", true)
  | 3 => ("HydrantRows", "ranking", "LHydrantRows$Ranking;", true)
  | 4 => ("HydrantRows", "walk", "LHydrantRows$Walk;", true)
  | 5 => ("HydrantRows", "hydrantCount", "I", false)
  | 6 => ("HydrantRows", "testCount", "I", false)
  | _ => ("HydrantRows", "privateAllowed", "Z", false)
def ct_C : Nat → FieldType := fun k => match k with
  | 0 => .array (.object "HydrantRows$Hydrant")
  | 1 => .array (.object "HydrantRows$Test")
  | 2 => .array .int
  | 3 => .object "HydrantRows$Ranking"
  | 4 => .object "HydrantRows$Walk"
  | 5 => .int
  | 6 => .int
  | _ => .boolean
theorem cm_C : ∀ a, a < 8 → ∀ b, b < 8 → a ≠ b → (cf_C a).2.1 ≠ (cf_C b).2.1 := by decide +kernel
theorem co_C : ∀ k, k < 8 → parseFieldDescriptor (cf_C k).2.2.1 = some (ct_C k) := by decide +kernel
def cn_H : String := "HydrantRows$Hydrant"
def cf_H : u_T := fun k => match k with
  | 0 => ("HydrantRows$Hydrant", "number", "I", true)
  | 1 => ("HydrantRows$Hydrant", "x", "I", true)
  | 2 => ("HydrantRows$Hydrant", "y", "I", true)
  | 3 => ("HydrantRows$Hydrant", "main", "I", true)
  | 4 => ("HydrantRows$Hydrant", "kind", "I", true)
  | 5 => ("HydrantRows$Hydrant", "worksRow", "[LHydrantRows$Works;", true)
  | 6 => ("HydrantRows$Hydrant", "worksCount", "I", false)
  | 7 => ("HydrantRows$Hydrant", "defect", "I", false)
  | 8 => ("HydrantRows$Hydrant", "dryMonths", "I", false)
  | 9 => ("HydrantRows$Hydrant", "testCount", "I", false)
  | _ => ("HydrantRows$Hydrant", "counting", "LHydrantRows$Test;", false)
def ct_H : Nat → FieldType := fun k => match k with
  | 0 => .int
  | 1 => .int
  | 2 => .int
  | 3 => .int
  | 4 => .int
  | 5 => .array (.object "HydrantRows$Works")
  | 6 => .int
  | 7 => .int
  | 8 => .int
  | 9 => .int
  | _ => .object "HydrantRows$Test"
theorem cm_H : ∀ a, a < 11 → ∀ b, b < 11 → a ≠ b → (cf_H a).2.1 ≠ (cf_H b).2.1 := by decide +kernel
theorem co_H : ∀ k, k < 11 → parseFieldDescriptor (cf_H k).2.2.1 = some (ct_H k) := by decide +kernel
def cn_T : String := "HydrantRows$Test"
def cf_T : u_T := fun k => match k with
  | 0 => ("HydrantRows$Test", "number", "I", true)
  | 1 => ("HydrantRows$Test", "hydrant", "I", true)
  | 2 => ("HydrantRows$Test", "day", "I", true)
  | 3 => ("HydrantRows$Test", "rest", "I", true)
  | 4 => ("HydrantRows$Test", "flow", "I", true)
  | _ => ("HydrantRows$Test", "left", "I", true)
def ct_T : Nat → FieldType := fun k => match k with
  | 0 => .int
  | 1 => .int
  | 2 => .int
  | 3 => .int
  | 4 => .int
  | _ => .int
theorem cm_T : ∀ a, a < 6 → ∀ b, b < 6 → a ≠ b → (cf_T a).2.1 ≠ (cf_T b).2.1 := by decide +kernel
theorem co_T : ∀ k, k < 6 → parseFieldDescriptor (cf_T k).2.2.1 = some (ct_T k) := by decide +kernel
def cn_O : String := "HydrantRows$Works"
def cf_O : u_T := fun k => match k with
  | 0 => ("HydrantRows$Works", "from", "I", true)
  | _ => ("HydrantRows$Works", "to", "I", true)
def ct_O : Nat → FieldType := fun k => match k with
  | 0 => .int
  | _ => .int
theorem cm_O : ∀ a, a < 2 → ∀ b, b < 2 → a ≠ b → (cf_O a).2.1 ≠ (cf_O b).2.1 := by decide +kernel
theorem co_O : ∀ k, k < 2 → parseFieldDescriptor (cf_O k).2.2.1 = some (ct_O k) := by decide +kernel
def cn_K : String := "HydrantRows$Ranking"
def cf_K : u_T := fun k => match k with
  | 0 => ("HydrantRows$Ranking", "keys", "[I", true)
  | _ => ("HydrantRows$Ranking", "size", "I", false)
def ct_K : Nat → FieldType := fun k => match k with
  | 0 => .array .int
  | _ => .int
theorem cm_K : ∀ a, a < 2 → ∀ b, b < 2 → a ≠ b → (cf_K a).2.1 ≠ (cf_K b).2.1 := by decide +kernel
theorem co_K : ∀ k, k < 2 → parseFieldDescriptor (cf_K k).2.2.1 = some (ct_K k) := by decide +kernel
def cn_A : String := "HydrantRows$Walk"
def cf_A : u_T := fun k => match k with
  | 0 => ("HydrantRows$Walk", "chosen", "[LHydrantRows$Hydrant;", true)
  | 1 => ("HydrantRows$Walk", "way", "[I", true)
  | 2 => ("HydrantRows$Walk", "bestWay", "[I", true)
  | 3 => ("HydrantRows$Walk", "count", "I", false)
  | _ => ("HydrantRows$Walk", "least", "I", false)
def ct_A : Nat → FieldType := fun k => match k with
  | 0 => .array (.object "HydrantRows$Hydrant")
  | 1 => .array .int
  | 2 => .array .int
  | 3 => .int
  | _ => .int
theorem cm_A : ∀ a, a < 5 → ∀ b, b < 5 → a ≠ b → (cf_A a).2.1 ≠ (cf_A b).2.1 := by decide +kernel
theorem co_A : ∀ k, k < 5 → parseFieldDescriptor (cf_A k).2.2.1 = some (ct_A k) := by decide +kernel
def cn_M : String := "HydrantRowsModel"
def cf_M : u_T := fun k => match k with
  | 0 => ("HydrantRowsModel", "thrown", "I", false)
  | 1 => ("HydrantRowsModel", "hydrants", "I", false)
  | 2 => ("HydrantRowsModel", "x", "[I", true)
  | 3 => ("HydrantRowsModel", "y", "[I", true)
  | 4 => ("HydrantRowsModel", "main", "[I", true)
  | 5 => ("HydrantRowsModel", "kind", "[I", true)
  | 6 => ("HydrantRowsModel", "grade", "[I", true)
  | 7 => ("HydrantRowsModel", "many", "[I", true)
  | 8 => ("HydrantRowsModel", "from", "[I", true)
  | 9 => ("HydrantRowsModel", "to", "[I", true)
  | 10 => ("HydrantRowsModel", "dry", "[Z", true)
  | 11 => ("HydrantRowsModel", "limit", "[I", true)
  | 12 => ("HydrantRowsModel", "allowed", "Z", false)
  | 13 => ("HydrantRowsModel", "tests", "I", false)
  | 14 => ("HydrantRowsModel", "of", "[I", true)
  | 15 => ("HydrantRowsModel", "day", "[I", true)
  | 16 => ("HydrantRowsModel", "rest", "[I", true)
  | 17 => ("HydrantRowsModel", "flow", "[I", true)
  | 18 => ("HydrantRowsModel", "left", "[I", true)
  | 19 => ("HydrantRowsModel", "stops", "I", false)
  | 20 => ("HydrantRowsModel", "told", "[I", true)
  | 21 => ("HydrantRowsModel", "tried", "[I", true)
  | _ => ("HydrantRowsModel", "best", "[I", true)
def ct_M : Nat → FieldType := fun k => match k with
  | 0 => .int
  | 1 => .int
  | 2 => .array .int
  | 3 => .array .int
  | 4 => .array .int
  | 5 => .array .int
  | 6 => .array .int
  | 7 => .array .int
  | 8 => .array .int
  | 9 => .array .int
  | 10 => .array .boolean
  | 11 => .array .int
  | 12 => .boolean
  | 13 => .int
  | 14 => .array .int
  | 15 => .array .int
  | 16 => .array .int
  | 17 => .array .int
  | 18 => .array .int
  | 19 => .int
  | 20 => .array .int
  | 21 => .array .int
  | _ => .array .int
theorem cm_M : ∀ a, a < 23 → ∀ b, b < 23 → a ≠ b → (cf_M a).2.1 ≠ (cf_M b).2.1 := by decide +kernel
theorem co_M : ∀ k, k < 23 → parseFieldDescriptor (cf_M k).2.2.1 = some (ct_M k) := by decide +kernel
def cn_L : String := "HydrantRowsLaw"
abbrev cl_w : List vw_C := [(cn_C, cf_C, 8), (cn_H, cf_H, 11), (cn_T, cf_T, 6), (cn_O, cf_O, 2), (cn_K, cf_K, 2), (cn_A, cf_A, 5), (cn_M, cf_M, 23)]
abbrev bb_C_init : ByteArray := prog_1_method_1_code
def yy_C_init : MethodName := ⟨cn_C, "<init>", "()V"⟩
abbrev bb_C_hydrant : ByteArray := prog_1_method_2_code
def yy_C_hydrant : MethodName := ⟨cn_C, "hydrant", "(IIII)I"⟩
abbrev bb_C_limit : ByteArray := prog_1_method_3_code
def yy_C_limit : MethodName := ⟨cn_C, "limit", "(II)V"⟩
abbrev bb_C_allow : ByteArray := prog_1_method_4_code
def yy_C_allow : MethodName := ⟨cn_C, "allow", "(Z)V"⟩
abbrev bb_C_test : ByteArray := prog_1_method_5_code
def yy_C_test : MethodName := ⟨cn_C, "test", "(IIIII)I"⟩
abbrev bb_C_flow : ByteArray := prog_1_method_6_code
def yy_C_flow : MethodName := ⟨cn_C, "flow", "(III)I"⟩
abbrev bb_C_sort : ByteArray := prog_1_method_7_code
def yy_C_sort : MethodName := ⟨cn_C, "sort", "(I)I"⟩
abbrev bb_C_defect : ByteArray := prog_1_method_8_code
def yy_C_defect : MethodName := ⟨cn_C, "defect", "(II)V"⟩
abbrev bb_C_works : ByteArray := prog_1_method_9_code
def yy_C_works : MethodName := ⟨cn_C, "works", "(III)V"⟩
abbrev bb_C_season : ByteArray := prog_1_method_10_code
def yy_C_season : MethodName := ⟨cn_C, "season", "(IIZ)V"⟩
abbrev bb_C_usable : ByteArray := prog_1_method_11_code
def yy_C_usable : MethodName := ⟨cn_C, "usable", "(II)Z"⟩
abbrev bb_C_near : ByteArray := prog_1_method_12_code
def yy_C_near : MethodName := ⟨cn_C, "near", "(IIII)I"⟩
abbrev bb_C_both : ByteArray := prog_1_method_13_code
def yy_C_both : MethodName := ⟨cn_C, "both", "(III)I"⟩
abbrev bb_C_supply : ByteArray := prog_1_method_14_code
def yy_C_supply : MethodName := ⟨cn_C, "supply", "(IIIII)I"⟩
abbrev bb_C_round : ByteArray := prog_1_method_15_code
def yy_C_round : MethodName := ⟨cn_C, "round", "(JI)I"⟩
abbrev bb_C_stop : ByteArray := prog_1_method_16_code
def yy_C_stop : MethodName := ⟨cn_C, "stop", "(I)I"⟩
abbrev bb_C_overdue : ByteArray := prog_1_method_17_code
def yy_C_overdue : MethodName := ⟨cn_C, "overdue", "(III)I"⟩
abbrev bb_C_testAt : ByteArray := prog_1_method_18_code
def yy_C_testAt : MethodName := ⟨cn_C, "testAt", "(II)I"⟩
abbrev bb_C_hydrantAt : ByteArray := prog_1_method_19_code
def yy_C_hydrantAt : MethodName := ⟨cn_C, "hydrantAt", "(II)I"⟩
abbrev bb_C_known : ByteArray := prog_1_method_20_code
def yy_C_known : MethodName := ⟨cn_C, "known", "(I)LHydrantRows$Hydrant;"⟩
abbrev bb_C_countingTest : ByteArray := prog_1_method_21_code
def yy_C_countingTest : MethodName := ⟨cn_C, "countingTest", "(LHydrantRows$Hydrant;)LHydrantRows$Test;"⟩
abbrev bb_C_needTold : ByteArray := prog_1_method_22_code
def yy_C_needTold : MethodName := ⟨cn_C, "needTold", "(LHydrantRows$Test;I)V"⟩
abbrev bb_C_needMain : ByteArray := prog_1_method_23_code
def yy_C_needMain : MethodName := ⟨cn_C, "needMain", "(I)V"⟩
abbrev bb_C_needPlace : ByteArray := prog_1_method_24_code
def yy_C_needPlace : MethodName := ⟨cn_C, "needPlace", "(II)V"⟩
abbrev bb_C_needDay : ByteArray := prog_1_method_25_code
def yy_C_needDay : MethodName := ⟨cn_C, "needDay", "(I)V"⟩
abbrev bb_C_needPressure : ByteArray := prog_1_method_26_code
def yy_C_needPressure : MethodName := ⟨cn_C, "needPressure", "(I)V"⟩
abbrev bb_C_needFlow : ByteArray := prog_1_method_27_code
def yy_C_needFlow : MethodName := ⟨cn_C, "needFlow", "(I)V"⟩
abbrev bb_C_needNotBelowZero : ByteArray := prog_1_method_28_code
def yy_C_needNotBelowZero : MethodName := ⟨cn_C, "needNotBelowZero", "(I)V"⟩
abbrev bb_C_limitOf : ByteArray := prog_1_method_29_code
def yy_C_limitOf : MethodName := ⟨cn_C, "limitOf", "(I)I"⟩
abbrev bb_C_supplyOfMain : ByteArray := prog_1_method_30_code
def yy_C_supplyOfMain : MethodName := ⟨cn_C, "supplyOfMain", "(IIIIII)I"⟩
abbrev bb_C_toldStop : ByteArray := prog_1_method_31_code
def yy_C_toldStop : MethodName := ⟨cn_C, "toldStop", "(JI)I"⟩
abbrev bb_C_setOfStops : ByteArray := prog_1_method_32_code
def yy_C_setOfStops : MethodName := ⟨cn_C, "setOfStops", "(JI)J"⟩
abbrev bb_C_commonDivisor : ByteArray := prog_1_method_33_code
def yy_C_commonDivisor : MethodName := ⟨cn_C, "commonDivisor", "(II)I"⟩
abbrev bb_C_hoseLength : ByteArray := prog_1_method_34_code
def yy_C_hoseLength : MethodName := ⟨cn_C, "hoseLength", "(IIII)I"⟩
abbrev bb_H_init : ByteArray := prog_2_method_1_code
def yy_H_init : MethodName := ⟨cn_H, "<init>", "(IIIII)V"⟩
abbrev bb_H_take : ByteArray := prog_2_method_2_code
def yy_H_take : MethodName := ⟨cn_H, "take", "(LHydrantRows$Test;)V"⟩
abbrev bb_H_countingNumber : ByteArray := prog_2_method_3_code
def yy_H_countingNumber : MethodName := ⟨cn_H, "countingNumber", "()I"⟩
abbrev bb_H_hasWorksWithin : ByteArray := prog_2_method_4_code
def yy_H_hasWorksWithin : MethodName := ⟨cn_H, "hasWorksWithin", "(II)Z"⟩
abbrev bb_H_addWorks : ByteArray := prog_2_method_5_code
def yy_H_addWorks : MethodName := ⟨cn_H, "addWorks", "(II)Z"⟩
abbrev bb_H_setDry : ByteArray := prog_2_method_6_code
def yy_H_setDry : MethodName := ⟨cn_H, "setDry", "(IZ)V"⟩
abbrev bb_H_isDry : ByteArray := prog_2_method_7_code
def yy_H_isDry : MethodName := ⟨cn_H, "isDry", "(I)Z"⟩
abbrev bb_H_isUsable : ByteArray := prog_2_method_8_code
def yy_H_isUsable : MethodName := ⟨cn_H, "isUsable", "(IZ)Z"⟩
abbrev bb_H_hoseFrom : ByteArray := prog_2_method_9_code
def yy_H_hoseFrom : MethodName := ⟨cn_H, "hoseFrom", "(II)I"⟩
abbrev bb_H_givenAt : ByteArray := prog_2_method_10_code
def yy_H_givenAt : MethodName := ⟨cn_H, "givenAt", "(I)I"⟩
abbrev bb_H_isOverdue : ByteArray := prog_2_method_11_code
def yy_H_isOverdue : MethodName := ⟨cn_H, "isOverdue", "(II)Z"⟩
abbrev bb_H_overdueWeight : ByteArray := prog_2_method_12_code
def yy_H_overdueWeight : MethodName := ⟨cn_H, "overdueWeight", "()I"⟩
abbrev bb_T_init : ByteArray := prog_4_method_1_code
def yy_T_init : MethodName := ⟨cn_T, "<init>", "(IIIIII)V"⟩
abbrev bb_T_canTell : ByteArray := prog_4_method_2_code
def yy_T_canTell : MethodName := ⟨cn_T, "canTell", "(I)Z"⟩
abbrev bb_T_upperAt : ByteArray := prog_4_method_3_code
def yy_T_upperAt : MethodName := ⟨cn_T, "upperAt", "(I)I"⟩
abbrev bb_T_lowerAt : ByteArray := prog_4_method_4_code
def yy_T_lowerAt : MethodName := ⟨cn_T, "lowerAt", "(I)I"⟩
abbrev bb_T_wholeAt : ByteArray := prog_4_method_5_code
def yy_T_wholeAt : MethodName := ⟨cn_T, "wholeAt", "(I)I"⟩
abbrev bb_O_init : ByteArray := prog_6_method_1_code
def yy_O_init : MethodName := ⟨cn_O, "<init>", "(II)V"⟩
abbrev bb_O_meet : ByteArray := prog_6_method_2_code
def yy_O_meet : MethodName := ⟨cn_O, "meet", "(II)Z"⟩
abbrev bb_K_init : ByteArray := prog_3_method_1_code
def yy_K_init : MethodName := ⟨cn_K, "<init>", "()V"⟩
abbrev bb_K_clear : ByteArray := prog_3_method_2_code
def yy_K_clear : MethodName := ⟨cn_K, "clear", "()V"⟩
abbrev bb_K_insert : ByteArray := prog_3_method_3_code
def yy_K_insert : MethodName := ⟨cn_K, "insert", "(II)V"⟩
abbrev bb_K_numberAt : ByteArray := prog_3_method_4_code
def yy_K_numberAt : MethodName := ⟨cn_K, "numberAt", "(I)I"⟩
abbrev bb_A_init : ByteArray := prog_5_method_1_code
def yy_A_init : MethodName := ⟨cn_A, "<init>", "()V"⟩
abbrev bb_A_clear : ByteArray := prog_5_method_2_code
def yy_A_clear : MethodName := ⟨cn_A, "clear", "()V"⟩
abbrev bb_A_choose : ByteArray := prog_5_method_3_code
def yy_A_choose : MethodName := ⟨cn_A, "choose", "(LHydrantRows$Hydrant;)V"⟩
abbrev bb_A_leastMetres : ByteArray := prog_5_method_4_code
def yy_A_leastMetres : MethodName := ⟨cn_A, "leastMetres", "()I"⟩
abbrev bb_A_stopAt : ByteArray := prog_5_method_5_code
def yy_A_stopAt : MethodName := ⟨cn_A, "stopAt", "(I)I"⟩
abbrev bb_A_goOn : ByteArray := prog_5_method_6_code
def yy_A_goOn : MethodName := ⟨cn_A, "goOn", "(IIIII)V"⟩
abbrev bb_A_keepWay : ByteArray := prog_5_method_7_code
def yy_A_keepWay : MethodName := ⟨cn_A, "keepWay", "(I)V"⟩
abbrev bb_M_init : ByteArray := prog_8_method_1_code
def yy_M_init : MethodName := ⟨cn_M, "<init>", "()V"⟩
abbrev bb_M_thrown : ByteArray := prog_8_method_2_code
def yy_M_thrown : MethodName := ⟨cn_M, "thrown", "()I"⟩
abbrev bb_M_in : ByteArray := prog_8_method_3_code
def yy_M_in : MethodName := ⟨cn_M, "in", "(III)Z"⟩
abbrev bb_M_goes : ByteArray := prog_8_method_4_code
def yy_M_goes : MethodName := ⟨cn_M, "goes", "(ZZZZ)Z"⟩
abbrev bb_M_isHydrant : ByteArray := prog_8_method_5_code
def yy_M_isHydrant : MethodName := ⟨cn_M, "isHydrant", "(I)Z"⟩
abbrev bb_M_isPlace : ByteArray := prog_8_method_6_code
def yy_M_isPlace : MethodName := ⟨cn_M, "isPlace", "(II)Z"⟩
abbrev bb_M_isDay : ByteArray := prog_8_method_7_code
def yy_M_isDay : MethodName := ⟨cn_M, "isDay", "(I)Z"⟩
abbrev bb_M_isPressure : ByteArray := prog_8_method_8_code
def yy_M_isPressure : MethodName := ⟨cn_M, "isPressure", "(I)Z"⟩
abbrev bb_M_isFlow : ByteArray := prog_8_method_9_code
def yy_M_isFlow : MethodName := ⟨cn_M, "isFlow", "(I)Z"⟩
abbrev bb_M_hydrant : ByteArray := prog_8_method_10_code
def yy_M_hydrant : MethodName := ⟨cn_M, "hydrant", "(IIII)I"⟩
abbrev bb_M_limit : ByteArray := prog_8_method_11_code
def yy_M_limit : MethodName := ⟨cn_M, "limit", "(II)V"⟩
abbrev bb_M_allow : ByteArray := prog_8_method_12_code
def yy_M_allow : MethodName := ⟨cn_M, "allow", "(Z)V"⟩
abbrev bb_M_test : ByteArray := prog_8_method_13_code
def yy_M_test : MethodName := ⟨cn_M, "test", "(IIIII)I"⟩
abbrev bb_M_counts : ByteArray := prog_8_method_14_code
def yy_M_counts : MethodName := ⟨cn_M, "counts", "(I)I"⟩
abbrev bb_M_canTell : ByteArray := prog_8_method_15_code
def yy_M_canTell : MethodName := ⟨cn_M, "canTell", "(II)Z"⟩
abbrev bb_M_up : ByteArray := prog_8_method_16_code
def yy_M_up : MethodName := ⟨cn_M, "up", "(II)I"⟩
abbrev bb_M_down : ByteArray := prog_8_method_17_code
def yy_M_down : MethodName := ⟨cn_M, "down", "(II)I"⟩
abbrev bb_M_flow : ByteArray := prog_8_method_18_code
def yy_M_flow : MethodName := ⟨cn_M, "flow", "(III)I"⟩
abbrev bb_M_sort : ByteArray := prog_8_method_19_code
def yy_M_sort : MethodName := ⟨cn_M, "sort", "(I)I"⟩
abbrev bb_M_defect : ByteArray := prog_8_method_20_code
def yy_M_defect : MethodName := ⟨cn_M, "defect", "(II)V"⟩
abbrev bb_M_works : ByteArray := prog_8_method_21_code
def yy_M_works : MethodName := ⟨cn_M, "works", "(III)V"⟩
abbrev bb_M_season : ByteArray := prog_8_method_22_code
def yy_M_season : MethodName := ⟨cn_M, "season", "(IIZ)V"⟩
abbrev bb_M_isUsable : ByteArray := prog_8_method_23_code
def yy_M_isUsable : MethodName := ⟨cn_M, "isUsable", "(II)Z"⟩
abbrev bb_M_usable : ByteArray := prog_8_method_24_code
def yy_M_usable : MethodName := ⟨cn_M, "usable", "(II)Z"⟩
abbrev bb_M_size : ByteArray := prog_8_method_25_code
def yy_M_size : MethodName := ⟨cn_M, "size", "(I)I"⟩
abbrev bb_M_hose : ByteArray := prog_8_method_26_code
def yy_M_hose : MethodName := ⟨cn_M, "hose", "(III)I"⟩
abbrev bb_M_near : ByteArray := prog_8_method_27_code
def yy_M_near : MethodName := ⟨cn_M, "near", "(IIII)I"⟩
abbrev bb_M_whole : ByteArray := prog_8_method_28_code
def yy_M_whole : MethodName := ⟨cn_M, "whole", "(II)I"⟩
abbrev bb_M_both : ByteArray := prog_8_method_29_code
def yy_M_both : MethodName := ⟨cn_M, "both", "(III)I"⟩
abbrev bb_M_supply : ByteArray := prog_8_method_30_code
def yy_M_supply : MethodName := ⟨cn_M, "supply", "(IIIII)I"⟩
abbrev bb_M_metres : ByteArray := prog_8_method_31_code
def yy_M_metres : MethodName := ⟨cn_M, "metres", "(I)I"⟩
abbrev bb_M_arranges : ByteArray := prog_8_method_32_code
def yy_M_arranges : MethodName := ⟨cn_M, "arranges", "(II)Z"⟩
abbrev bb_M_isAhead : ByteArray := prog_8_method_33_code
def yy_M_isAhead : MethodName := ⟨cn_M, "isAhead", "(I)Z"⟩
abbrev bb_M_round : ByteArray := prog_8_method_34_code
def yy_M_round : MethodName := ⟨cn_M, "round", "(JI)I"⟩
abbrev bb_M_stop : ByteArray := prog_8_method_35_code
def yy_M_stop : MethodName := ⟨cn_M, "stop", "(I)I"⟩
abbrev bb_M_late : ByteArray := prog_8_method_36_code
def yy_M_late : MethodName := ⟨cn_M, "late", "(III)I"⟩
abbrev bb_M_overdue : ByteArray := prog_8_method_37_code
def yy_M_overdue : MethodName := ⟨cn_M, "overdue", "(III)I"⟩
abbrev bb_M_testAt : ByteArray := prog_8_method_38_code
def yy_M_testAt : MethodName := ⟨cn_M, "testAt", "(II)I"⟩
abbrev bb_M_hydrantAt : ByteArray := prog_8_method_39_code
def yy_M_hydrantAt : MethodName := ⟨cn_M, "hydrantAt", "(II)I"⟩
abbrev bb_L_hydrant : ByteArray := method_3_code
def yy_L_hydrant : MethodName := ⟨cn_L, "hydrant", "(LHydrantRows;IIII[J)I"⟩
abbrev bb_L_limit : ByteArray := method_4_code
def yy_L_limit : MethodName := ⟨cn_L, "limit", "(LHydrantRows;II)I"⟩
abbrev bb_L_test : ByteArray := method_5_code
def yy_L_test : MethodName := ⟨cn_L, "test", "(LHydrantRows;IIIII[J)I"⟩
abbrev bb_L_flow : ByteArray := method_6_code
def yy_L_flow : MethodName := ⟨cn_L, "flow", "(LHydrantRows;III[J)I"⟩
abbrev bb_L_sort : ByteArray := method_7_code
def yy_L_sort : MethodName := ⟨cn_L, "sort", "(LHydrantRows;I[J)I"⟩
abbrev bb_L_defect : ByteArray := method_8_code
def yy_L_defect : MethodName := ⟨cn_L, "defect", "(LHydrantRows;II)I"⟩
abbrev bb_L_works : ByteArray := method_9_code
def yy_L_works : MethodName := ⟨cn_L, "works", "(LHydrantRows;III)I"⟩
abbrev bb_L_season : ByteArray := method_10_code
def yy_L_season : MethodName := ⟨cn_L, "season", "(LHydrantRows;IIZ)I"⟩
abbrev bb_L_usable : ByteArray := method_11_code
def yy_L_usable : MethodName := ⟨cn_L, "usable", "(LHydrantRows;II[J)I"⟩
abbrev bb_L_near : ByteArray := method_12_code
def yy_L_near : MethodName := ⟨cn_L, "near", "(LHydrantRows;IIII[J)I"⟩
abbrev bb_L_both : ByteArray := method_13_code
def yy_L_both : MethodName := ⟨cn_L, "both", "(LHydrantRows;III[J)I"⟩
abbrev bb_L_supply : ByteArray := method_14_code
def yy_L_supply : MethodName := ⟨cn_L, "supply", "(LHydrantRows;IIIII[J)I"⟩
abbrev bb_L_round : ByteArray := method_15_code
def yy_L_round : MethodName := ⟨cn_L, "round", "(LHydrantRows;JI[J)I"⟩
abbrev bb_L_stop : ByteArray := method_16_code
def yy_L_stop : MethodName := ⟨cn_L, "stop", "(LHydrantRows;I[J)I"⟩
abbrev bb_L_overdue : ByteArray := method_17_code
def yy_L_overdue : MethodName := ⟨cn_L, "overdue", "(LHydrantRows;III[J)I"⟩
abbrev bb_L_testAt : ByteArray := method_18_code
def yy_L_testAt : MethodName := ⟨cn_L, "testAt", "(LHydrantRows;II[J)I"⟩
abbrev bb_L_hydrantAt : ByteArray := method_19_code
def yy_L_hydrantAt : MethodName := ⟨cn_L, "hydrantAt", "(LHydrantRows;II[J)I"⟩
abbrev bb_L_law : ByteArray := code
def yy_L_law : MethodName := ⟨cn_L, "law", "([I)Z"⟩
def gw : List Cond := lw_tbl.filter goodWord
theorem gw_good : ∀ w ∈ gw, goodWord w = true := fun w h => (List.mem_filter.mp h).2
theorem gw_in : ∀ w ∈ gw, w ∈ lw_tbl := fun w h => (List.mem_filter.mp h).1
theorem gw_1 {w : Cond} (h : w ∈ tables_1_1) (g : goodWord w = true) : w ∈ gw := List.mem_filter.mpr ⟨List.mem_append_right _ (List.mem_append_left _ h), g⟩
theorem gw_2 {w : Cond} (h : w ∈ tables_1_2) (g : goodWord w = true) : w ∈ gw := List.mem_filter.mpr ⟨List.mem_append_right _ (List.mem_append_right _ (List.mem_append_left _ h)), g⟩
theorem gw_3 {w : Cond} (h : w ∈ tables_1_3) (g : goodWord w = true) : w ∈ gw := List.mem_filter.mpr ⟨List.mem_append_right _ (List.mem_append_right _ (List.mem_append_right _ (List.mem_append_left _ h))), g⟩
theorem gw_4 {w : Cond} (h : w ∈ tables_1_4) (g : goodWord w = true) : w ∈ gw := List.mem_filter.mpr ⟨List.mem_append_right _ (List.mem_append_right _ (List.mem_append_right _ (List.mem_append_right _ h))), g⟩
theorem gw_0 {w : Cond} (h : w ∈ k2_sels lw_privs) (g : goodWord w = true) : w ∈ gw := List.mem_filter.mpr ⟨List.mem_append_left _ h, g⟩
theorem gn_L : Cond.initialized cn_L ∈ gw := gw_1 (List.mem_of_getElem? (i := 0) (by decide +kernel)) rfl
theorem gn_C : Cond.initialized cn_C ∈ gw := gw_1 (List.mem_of_getElem? (i := 1) (by decide +kernel)) rfl
theorem gn_K : Cond.initialized cn_K ∈ gw := gw_1 (List.mem_of_getElem? (i := 2) (by decide +kernel)) rfl
theorem gn_A : Cond.initialized cn_A ∈ gw := gw_1 (List.mem_of_getElem? (i := 3) (by decide +kernel)) rfl
theorem gn_M : Cond.initialized cn_M ∈ gw := gw_1 (List.mem_of_getElem? (i := 4) (by decide +kernel)) rfl
theorem gn_Throwable : Cond.initialized "java/lang/Throwable" ∈ gw := gw_1 (List.mem_of_getElem? (i := 5) (by decide +kernel)) rfl
theorem gn_Exception : Cond.initialized "java/lang/Exception" ∈ gw := gw_1 (List.mem_of_getElem? (i := 6) (by decide +kernel)) rfl
theorem gn_RuntimeException : Cond.initialized "java/lang/RuntimeException" ∈ gw := gw_1 (List.mem_of_getElem? (i := 7) (by decide +kernel)) rfl
theorem gn_IllegalArgumentException : Cond.initialized "java/lang/IllegalArgumentException" ∈ gw := gw_1 (List.mem_of_getElem? (i := 8) (by decide +kernel)) rfl
theorem gn_IndexOutOfBoundsException : Cond.initialized "java/lang/IndexOutOfBoundsException" ∈ gw := gw_1 (List.mem_of_getElem? (i := 9) (by decide +kernel)) rfl
theorem gn_UnsupportedOperationException : Cond.initialized "java/lang/UnsupportedOperationException" ∈ gw := gw_1 (List.mem_of_getElem? (i := 10) (by decide +kernel)) rfl
theorem gn_H : Cond.initialized cn_H ∈ gw := gw_1 (List.mem_of_getElem? (i := 11) (by decide +kernel)) rfl
theorem gn_IllegalStateException : Cond.initialized "java/lang/IllegalStateException" ∈ gw := gw_1 (List.mem_of_getElem? (i := 12) (by decide +kernel)) rfl
theorem gn_T : Cond.initialized cn_T ∈ gw := gw_1 (List.mem_of_getElem? (i := 13) (by decide +kernel)) rfl
theorem gn_ArithmeticException : Cond.initialized "java/lang/ArithmeticException" ∈ gw := gw_1 (List.mem_of_getElem? (i := 14) (by decide +kernel)) rfl
theorem gn_Math : Cond.initialized "java/lang/Math" ∈ gw := gw_1 (List.mem_of_getElem? (i := 15) (by decide +kernel)) rfl
theorem gn_O : Cond.initialized cn_O ∈ gw := gw_1 (List.mem_of_getElem? (i := 16) (by decide +kernel)) rfl
theorem gk_L_8 : Cond.classLink cn_L 8 cn_C ∈ gw := gw_1 (List.mem_of_getElem? (i := 17) (by decide +kernel)) rfl
theorem gx_C : Cond.instantiable cn_C 8 ∈ gw := gw_1 (List.mem_of_getElem? (i := 18) (by decide +kernel)) rfl
theorem gm_L_80 : Cond.methodLink cn_L 80 yy_C_init ∈ gw := gw_1 (List.mem_of_getElem? (i := 19) (by decide +kernel)) rfl
theorem gi_C_init : Cond.instanceMethod yy_C_init ∈ gw := gw_1 (List.mem_of_getElem? (i := 20) (by decide +kernel)) rfl
theorem gc_C_init : Cond.code yy_C_init bb_C_init 2 none ∈ gw := gw_1 (List.mem_of_getElem? (i := 21) (by decide +kernel)) rfl
theorem gm_C_1 : Cond.methodLink cn_C 1 objectInit ∈ gw := gw_1 (List.mem_of_getElem? (i := 22) (by decide +kernel)) rfl
theorem gi_objectInit : Cond.instanceMethod objectInit ∈ gw := gw_1 (List.mem_of_getElem? (i := 23) (by decide +kernel)) rfl
theorem gc_objectInit : Cond.code objectInit ⟨#[0xb1]⟩ 1 none ∈ gw := gw_1 (List.mem_of_getElem? (i := 24) (by decide +kernel)) rfl
theorem gk_C_9 : Cond.classLink cn_C 9 cn_H ∈ gw := gw_1 (List.mem_of_getElem? (i := 25) (by decide +kernel)) rfl
theorem gk_C_15 : Cond.classLink cn_C 15 cn_T ∈ gw := gw_1 (List.mem_of_getElem? (i := 27) (by decide +kernel)) rfl
theorem gk_C_25 : Cond.classLink cn_C 25 cn_K ∈ gw := gw_1 (List.mem_of_getElem? (i := 29) (by decide +kernel)) rfl
theorem gx_K : Cond.instantiable cn_K 2 ∈ gw := gw_1 (List.mem_of_getElem? (i := 30) (by decide +kernel)) rfl
theorem gi_K_init : Cond.instanceMethod yy_K_init ∈ gw := gw_1 (List.mem_of_getElem? (i := 32) (by decide +kernel)) rfl
theorem gc_K_init : Cond.code yy_K_init bb_K_init 1 none ∈ gw := gw_1 (List.mem_of_getElem? (i := 33) (by decide +kernel)) rfl
theorem gm_K_3 : Cond.methodLink cn_K 3 objectInit ∈ gw := gw_1 (List.mem_of_getElem? (i := 34) (by decide +kernel)) rfl
theorem gf_K_9 : Cond.fieldLink cn_K 9 cn_K "keys" "[I" ∈ gw := gw_1 (List.mem_of_getElem? (i := 35) (by decide +kernel)) rfl
theorem gf_K_15 : Cond.fieldLink cn_K 15 cn_K "size" "I" ∈ gw := gw_1 (List.mem_of_getElem? (i := 36) (by decide +kernel)) rfl
theorem gar_int : Cond.arrayClass .int ∈ gw := gw_1 (List.mem_of_getElem? (i := 42) (by decide +kernel)) rfl
theorem gk_C_32 : Cond.classLink cn_C 32 cn_A ∈ gw := gw_1 (List.mem_of_getElem? (i := 43) (by decide +kernel)) rfl
theorem gx_A : Cond.instantiable cn_A 5 ∈ gw := gw_1 (List.mem_of_getElem? (i := 44) (by decide +kernel)) rfl
theorem gi_A_init : Cond.instanceMethod yy_A_init ∈ gw := gw_1 (List.mem_of_getElem? (i := 46) (by decide +kernel)) rfl
theorem gc_A_init : Cond.code yy_A_init bb_A_init 1 none ∈ gw := gw_1 (List.mem_of_getElem? (i := 47) (by decide +kernel)) rfl
theorem gm_A_3 : Cond.methodLink cn_A 3 objectInit ∈ gw := gw_1 (List.mem_of_getElem? (i := 48) (by decide +kernel)) rfl
theorem gk_A_9 : Cond.classLink cn_A 9 cn_H ∈ gw := gw_1 (List.mem_of_getElem? (i := 49) (by decide +kernel)) rfl
theorem gf_A_11 : Cond.fieldLink cn_A 11 cn_A "chosen" "[LHydrantRows$Hydrant;" ∈ gw := gw_1 (List.mem_of_getElem? (i := 50) (by decide +kernel)) rfl
theorem gf_A_17 : Cond.fieldLink cn_A 17 cn_A "way" "[I" ∈ gw := gw_1 (List.mem_of_getElem? (i := 51) (by decide +kernel)) rfl
theorem gf_A_21 : Cond.fieldLink cn_A 21 cn_A "bestWay" "[I" ∈ gw := gw_1 (List.mem_of_getElem? (i := 52) (by decide +kernel)) rfl
theorem gf_A_24 : Cond.fieldLink cn_A 24 cn_A "count" "I" ∈ gw := gw_1 (List.mem_of_getElem? (i := 53) (by decide +kernel)) rfl
theorem gf_A_28 : Cond.fieldLink cn_A 28 cn_A "least" "I" ∈ gw := gw_1 (List.mem_of_getElem? (i := 54) (by decide +kernel)) rfl
theorem gf_C_11 : Cond.fieldLink cn_C 11 cn_C "hydrantRow" "[LHydrantRows$Hydrant;" ∈ gw := gw_1 (List.mem_of_getElem? (i := 66) (by decide +kernel)) rfl
theorem gf_C_17 : Cond.fieldLink cn_C 17 cn_C "testRow" "[LHydrantRows$Test;" ∈ gw := gw_1 (List.mem_of_getElem? (i := 67) (by decide +kernel)) rfl
theorem gf_C_21 : Cond.fieldLink cn_C 21 cn_C "limits" "[I" ∈ gw := gw_1 (List.mem_of_getElem? (i := 68) (by decide +kernel)) rfl
theorem gf_C_28 : Cond.fieldLink cn_C 28 cn_C "ranking" "LHydrantRows$Ranking;" ∈ gw := gw_1 (List.mem_of_getElem? (i := 69) (by decide +kernel)) rfl
theorem gf_C_35 : Cond.fieldLink cn_C 35 cn_C "walk" "LHydrantRows$Walk;" ∈ gw := gw_1 (List.mem_of_getElem? (i := 70) (by decide +kernel)) rfl
theorem gf_C_39 : Cond.fieldLink cn_C 39 cn_C "hydrantCount" "I" ∈ gw := gw_1 (List.mem_of_getElem? (i := 71) (by decide +kernel)) rfl
theorem gf_C_43 : Cond.fieldLink cn_C 43 cn_C "testCount" "I" ∈ gw := gw_1 (List.mem_of_getElem? (i := 72) (by decide +kernel)) rfl
theorem gf_C_46 : Cond.fieldLink cn_C 46 cn_C "privateAllowed" "Z" ∈ gw := gw_1 (List.mem_of_getElem? (i := 73) (by decide +kernel)) rfl
theorem gm_L_98 : Cond.methodLink cn_L 98 yy_C_allow ∈ gw := gw_1 (List.mem_of_getElem? (i := 91) (by decide +kernel)) rfl
theorem gi_C_allow : Cond.instanceMethod yy_C_allow ∈ gw := gw_1 (List.mem_of_getElem? (i := 92) (by decide +kernel)) rfl
theorem gs_C_allow : Cond.selects cn_C yy_C_allow yy_C_allow ∈ gw := gw_1 (List.mem_of_getElem? (i := 93) (by decide +kernel)) rfl
theorem gc_C_allow : Cond.code yy_C_allow bb_C_allow 2 none ∈ gw := gw_1 (List.mem_of_getElem? (i := 94) (by decide +kernel)) rfl
theorem gm_L_84 : Cond.methodLink cn_L 84 yy_L_hydrant ∈ gw := gw_1 (List.mem_of_getElem? (i := 95) (by decide +kernel)) rfl
theorem gt_L_hydrant : Cond.static yy_L_hydrant ∈ gw := gw_1 (List.mem_of_getElem? (i := 96) (by decide +kernel)) rfl
theorem gk_L_13 : Cond.classLink cn_L 13 "java/lang/IllegalArgumentException" ∈ gw := gw_1 (List.mem_of_getElem? (i := 98) (by decide +kernel)) rfl
theorem gk_L_15 : Cond.classLink cn_L 15 "java/lang/IndexOutOfBoundsException" ∈ gw := gw_1 (List.mem_of_getElem? (i := 99) (by decide +kernel)) rfl
theorem gk_L_17 : Cond.classLink cn_L 17 "java/lang/UnsupportedOperationException" ∈ gw := gw_1 (List.mem_of_getElem? (i := 100) (by decide +kernel)) rfl
theorem gm_L_7 : Cond.methodLink cn_L 7 yy_C_hydrant ∈ gw := gw_1 (List.mem_of_getElem? (i := 101) (by decide +kernel)) rfl
theorem gi_C_hydrant : Cond.instanceMethod yy_C_hydrant ∈ gw := gw_1 (List.mem_of_getElem? (i := 102) (by decide +kernel)) rfl
theorem gs_C_hydrant : Cond.selects cn_C yy_C_hydrant yy_C_hydrant ∈ gw := gw_1 (List.mem_of_getElem? (i := 103) (by decide +kernel)) rfl
theorem gc_C_hydrant : Cond.code yy_C_hydrant bb_C_hydrant 6 (some .int) ∈ gw := gw_1 (List.mem_of_getElem? (i := 104) (by decide +kernel)) rfl
theorem gm_C_50 : Cond.methodLink cn_C 50 yy_C_needMain ∈ gw := gw_1 (List.mem_of_getElem? (i := 105) (by decide +kernel)) rfl
theorem gi_C_needMain : Cond.instanceMethod yy_C_needMain ∈ gw := gw_1 (List.mem_of_getElem? (i := 107) (by decide +kernel)) rfl
theorem gc_C_needMain : Cond.code yy_C_needMain bb_C_needMain 2 none ∈ gw := gw_1 (List.mem_of_getElem? (i := 108) (by decide +kernel)) rfl
theorem gk_C_54 : Cond.classLink cn_C 54 "java/lang/IllegalArgumentException" ∈ gw := gw_1 (List.mem_of_getElem? (i := 109) (by decide +kernel)) rfl
theorem gar_byte : Cond.arrayClass .byte ∈ gw := gw_1 (List.mem_of_getElem? (i := 178) (by decide +kernel)) rfl
theorem gm_C_61 : Cond.methodLink cn_C 61 yy_C_needPlace ∈ gw := gw_1 (List.mem_of_getElem? (i := 180) (by decide +kernel)) rfl
theorem gt_C_needPlace : Cond.static yy_C_needPlace ∈ gw := gw_1 (List.mem_of_getElem? (i := 181) (by decide +kernel)) rfl
theorem gc_C_needPlace : Cond.code yy_C_needPlace bb_C_needPlace 2 none ∈ gw := gw_1 (List.mem_of_getElem? (i := 182) (by decide +kernel)) rfl
theorem gq_C_274 : Cond.constant cn_C 274 (-50000) ∈ gw := gw_1 (List.mem_of_getElem? (i := 183) (by decide +kernel)) rfl
theorem gq_C_275 : Cond.constant cn_C 275 (50000) ∈ gw := gw_1 (List.mem_of_getElem? (i := 184) (by decide +kernel)) rfl
theorem gk_C_132 : Cond.classLink cn_C 132 "java/lang/IndexOutOfBoundsException" ∈ gw := gw_1 (List.mem_of_getElem? (i := 185) (by decide +kernel)) rfl
theorem gk_C_65 : Cond.classLink cn_C 65 "java/lang/UnsupportedOperationException" ∈ gw := gw_1 (List.mem_of_getElem? (i := 201) (by decide +kernel)) rfl
theorem gx_H : Cond.instantiable cn_H 11 ∈ gw := gw_1 (List.mem_of_getElem? (i := 217) (by decide +kernel)) rfl
theorem gm_C_70 : Cond.methodLink cn_C 70 yy_H_init ∈ gw := gw_1 (List.mem_of_getElem? (i := 218) (by decide +kernel)) rfl
theorem gi_H_init : Cond.instanceMethod yy_H_init ∈ gw := gw_1 (List.mem_of_getElem? (i := 219) (by decide +kernel)) rfl
theorem gc_H_init : Cond.code yy_H_init bb_H_init 6 none ∈ gw := gw_1 (List.mem_of_getElem? (i := 220) (by decide +kernel)) rfl
theorem gm_H_3 : Cond.methodLink cn_H 3 objectInit ∈ gw := gw_1 (List.mem_of_getElem? (i := 221) (by decide +kernel)) rfl
theorem gk_H_9 : Cond.classLink cn_H 9 cn_O ∈ gw := gw_1 (List.mem_of_getElem? (i := 222) (by decide +kernel)) rfl
theorem gf_H_34 : Cond.fieldLink cn_H 34 cn_H "number" "I" ∈ gw := gw_1 (List.mem_of_getElem? (i := 224) (by decide +kernel)) rfl
theorem gf_A_46 : Cond.fieldLink cn_A 46 cn_H "number" "I" ∈ gw := gw_1 (List.mem_of_getElem? (i := 225) (by decide +kernel)) rfl
theorem gf_C_177 : Cond.fieldLink cn_C 177 cn_H "number" "I" ∈ gw := gw_1 (List.mem_of_getElem? (i := 226) (by decide +kernel)) rfl
theorem gf_H_37 : Cond.fieldLink cn_H 37 cn_H "x" "I" ∈ gw := gw_1 (List.mem_of_getElem? (i := 227) (by decide +kernel)) rfl
theorem gf_A_49 : Cond.fieldLink cn_A 49 cn_H "x" "I" ∈ gw := gw_1 (List.mem_of_getElem? (i := 228) (by decide +kernel)) rfl
theorem gf_H_40 : Cond.fieldLink cn_H 40 cn_H "y" "I" ∈ gw := gw_1 (List.mem_of_getElem? (i := 229) (by decide +kernel)) rfl
theorem gf_A_52 : Cond.fieldLink cn_A 52 cn_H "y" "I" ∈ gw := gw_1 (List.mem_of_getElem? (i := 230) (by decide +kernel)) rfl
theorem gf_H_43 : Cond.fieldLink cn_H 43 cn_H "main" "I" ∈ gw := gw_1 (List.mem_of_getElem? (i := 231) (by decide +kernel)) rfl
theorem gf_C_188 : Cond.fieldLink cn_C 188 cn_H "main" "I" ∈ gw := gw_1 (List.mem_of_getElem? (i := 232) (by decide +kernel)) rfl
theorem gf_H_46 : Cond.fieldLink cn_H 46 cn_H "kind" "I" ∈ gw := gw_1 (List.mem_of_getElem? (i := 233) (by decide +kernel)) rfl
theorem gf_C_155 : Cond.fieldLink cn_C 155 cn_H "kind" "I" ∈ gw := gw_1 (List.mem_of_getElem? (i := 234) (by decide +kernel)) rfl
theorem gf_H_11 : Cond.fieldLink cn_H 11 cn_H "worksRow" "[LHydrantRows$Works;" ∈ gw := gw_1 (List.mem_of_getElem? (i := 235) (by decide +kernel)) rfl
theorem gf_H_17 : Cond.fieldLink cn_H 17 cn_H "worksCount" "I" ∈ gw := gw_1 (List.mem_of_getElem? (i := 236) (by decide +kernel)) rfl
theorem gf_C_252 : Cond.fieldLink cn_C 252 cn_H "worksCount" "I" ∈ gw := gw_1 (List.mem_of_getElem? (i := 237) (by decide +kernel)) rfl
theorem gf_H_21 : Cond.fieldLink cn_H 21 cn_H "defect" "I" ∈ gw := gw_1 (List.mem_of_getElem? (i := 238) (by decide +kernel)) rfl
theorem gf_C_137 : Cond.fieldLink cn_C 137 cn_H "defect" "I" ∈ gw := gw_1 (List.mem_of_getElem? (i := 239) (by decide +kernel)) rfl
theorem gf_H_24 : Cond.fieldLink cn_H 24 cn_H "dryMonths" "I" ∈ gw := gw_2 (List.mem_of_getElem? (i := 0) (by decide +kernel)) rfl
theorem gf_H_27 : Cond.fieldLink cn_H 27 cn_H "testCount" "I" ∈ gw := gw_2 (List.mem_of_getElem? (i := 1) (by decide +kernel)) rfl
theorem gf_C_251 : Cond.fieldLink cn_C 251 cn_H "testCount" "I" ∈ gw := gw_2 (List.mem_of_getElem? (i := 2) (by decide +kernel)) rfl
theorem gf_H_30 : Cond.fieldLink cn_H 30 cn_H "counting" "LHydrantRows$Test;" ∈ gw := gw_2 (List.mem_of_getElem? (i := 3) (by decide +kernel)) rfl
theorem gf_C_257 : Cond.fieldLink cn_C 257 cn_H "counting" "LHydrantRows$Test;" ∈ gw := gw_2 (List.mem_of_getElem? (i := 4) (by decide +kernel)) rfl
theorem gm_L_94 : Cond.methodLink cn_L 94 yy_L_limit ∈ gw := gw_2 (List.mem_of_getElem? (i := 28) (by decide +kernel)) rfl
theorem gt_L_limit : Cond.static yy_L_limit ∈ gw := gw_2 (List.mem_of_getElem? (i := 29) (by decide +kernel)) rfl
theorem gm_L_19 : Cond.methodLink cn_L 19 yy_C_limit ∈ gw := gw_2 (List.mem_of_getElem? (i := 31) (by decide +kernel)) rfl
theorem gi_C_limit : Cond.instanceMethod yy_C_limit ∈ gw := gw_2 (List.mem_of_getElem? (i := 32) (by decide +kernel)) rfl
theorem gs_C_limit : Cond.selects cn_C yy_C_limit yy_C_limit ∈ gw := gw_2 (List.mem_of_getElem? (i := 33) (by decide +kernel)) rfl
theorem gc_C_limit : Cond.code yy_C_limit bb_C_limit 3 none ∈ gw := gw_2 (List.mem_of_getElem? (i := 34) (by decide +kernel)) rfl
theorem gm_C_73 : Cond.methodLink cn_C 73 yy_C_needFlow ∈ gw := gw_2 (List.mem_of_getElem? (i := 35) (by decide +kernel)) rfl
theorem gt_C_needFlow : Cond.static yy_C_needFlow ∈ gw := gw_2 (List.mem_of_getElem? (i := 36) (by decide +kernel)) rfl
theorem gc_C_needFlow : Cond.code yy_C_needFlow bb_C_needFlow 1 none ∈ gw := gw_2 (List.mem_of_getElem? (i := 37) (by decide +kernel)) rfl
theorem gm_L_103 : Cond.methodLink cn_L 103 yy_L_test ∈ gw := gw_2 (List.mem_of_getElem? (i := 39) (by decide +kernel)) rfl
theorem gt_L_test : Cond.static yy_L_test ∈ gw := gw_2 (List.mem_of_getElem? (i := 40) (by decide +kernel)) rfl
theorem gk_L_27 : Cond.classLink cn_L 27 "java/lang/IllegalStateException" ∈ gw := gw_2 (List.mem_of_getElem? (i := 42) (by decide +kernel)) rfl
theorem gm_L_23 : Cond.methodLink cn_L 23 yy_C_test ∈ gw := gw_2 (List.mem_of_getElem? (i := 43) (by decide +kernel)) rfl
theorem gi_C_test : Cond.instanceMethod yy_C_test ∈ gw := gw_2 (List.mem_of_getElem? (i := 44) (by decide +kernel)) rfl
theorem gs_C_test : Cond.selects cn_C yy_C_test yy_C_test ∈ gw := gw_2 (List.mem_of_getElem? (i := 45) (by decide +kernel)) rfl
theorem gc_C_test : Cond.code yy_C_test bb_C_test 9 (some .int) ∈ gw := gw_2 (List.mem_of_getElem? (i := 46) (by decide +kernel)) rfl
theorem gm_C_76 : Cond.methodLink cn_C 76 yy_C_known ∈ gw := gw_2 (List.mem_of_getElem? (i := 47) (by decide +kernel)) rfl
theorem gi_C_known : Cond.instanceMethod yy_C_known ∈ gw := gw_2 (List.mem_of_getElem? (i := 49) (by decide +kernel)) rfl
theorem gc_C_known : Cond.code yy_C_known bb_C_known 3 (some (.object "HydrantRows$Hydrant")) ∈ gw := gw_2 (List.mem_of_getElem? (i := 50) (by decide +kernel)) rfl
theorem gm_C_80 : Cond.methodLink cn_C 80 yy_C_needDay ∈ gw := gw_2 (List.mem_of_getElem? (i := 52) (by decide +kernel)) rfl
theorem gt_C_needDay : Cond.static yy_C_needDay ∈ gw := gw_2 (List.mem_of_getElem? (i := 53) (by decide +kernel)) rfl
theorem gc_C_needDay : Cond.code yy_C_needDay bb_C_needDay 1 none ∈ gw := gw_2 (List.mem_of_getElem? (i := 54) (by decide +kernel)) rfl
theorem gq_C_278 : Cond.constant cn_C 278 (99999) ∈ gw := gw_2 (List.mem_of_getElem? (i := 55) (by decide +kernel)) rfl
theorem gm_C_83 : Cond.methodLink cn_C 83 yy_C_needPressure ∈ gw := gw_2 (List.mem_of_getElem? (i := 57) (by decide +kernel)) rfl
theorem gt_C_needPressure : Cond.static yy_C_needPressure ∈ gw := gw_2 (List.mem_of_getElem? (i := 58) (by decide +kernel)) rfl
theorem gc_C_needPressure : Cond.code yy_C_needPressure bb_C_needPressure 1 none ∈ gw := gw_2 (List.mem_of_getElem? (i := 59) (by decide +kernel)) rfl
theorem gk_C_86 : Cond.classLink cn_C 86 "java/lang/IllegalStateException" ∈ gw := gw_2 (List.mem_of_getElem? (i := 61) (by decide +kernel)) rfl
theorem gx_T : Cond.instantiable cn_T 6 ∈ gw := gw_2 (List.mem_of_getElem? (i := 78) (by decide +kernel)) rfl
theorem gm_C_93 : Cond.methodLink cn_C 93 yy_T_init ∈ gw := gw_2 (List.mem_of_getElem? (i := 79) (by decide +kernel)) rfl
theorem gi_T_init : Cond.instanceMethod yy_T_init ∈ gw := gw_2 (List.mem_of_getElem? (i := 80) (by decide +kernel)) rfl
theorem gc_T_init : Cond.code yy_T_init bb_T_init 7 none ∈ gw := gw_2 (List.mem_of_getElem? (i := 81) (by decide +kernel)) rfl
theorem gm_T_1 : Cond.methodLink cn_T 1 objectInit ∈ gw := gw_2 (List.mem_of_getElem? (i := 82) (by decide +kernel)) rfl
theorem gf_T_7 : Cond.fieldLink cn_T 7 cn_T "number" "I" ∈ gw := gw_2 (List.mem_of_getElem? (i := 83) (by decide +kernel)) rfl
theorem gf_H_54 : Cond.fieldLink cn_H 54 cn_T "number" "I" ∈ gw := gw_2 (List.mem_of_getElem? (i := 84) (by decide +kernel)) rfl
theorem gf_T_13 : Cond.fieldLink cn_T 13 cn_T "hydrant" "I" ∈ gw := gw_2 (List.mem_of_getElem? (i := 85) (by decide +kernel)) rfl
theorem gf_C_233 : Cond.fieldLink cn_C 233 cn_T "hydrant" "I" ∈ gw := gw_2 (List.mem_of_getElem? (i := 86) (by decide +kernel)) rfl
theorem gf_T_16 : Cond.fieldLink cn_T 16 cn_T "day" "I" ∈ gw := gw_2 (List.mem_of_getElem? (i := 87) (by decide +kernel)) rfl
theorem gf_H_49 : Cond.fieldLink cn_H 49 cn_T "day" "I" ∈ gw := gw_2 (List.mem_of_getElem? (i := 88) (by decide +kernel)) rfl
theorem gf_C_236 : Cond.fieldLink cn_C 236 cn_T "day" "I" ∈ gw := gw_2 (List.mem_of_getElem? (i := 89) (by decide +kernel)) rfl
theorem gf_T_19 : Cond.fieldLink cn_T 19 cn_T "rest" "I" ∈ gw := gw_2 (List.mem_of_getElem? (i := 90) (by decide +kernel)) rfl
theorem gf_C_239 : Cond.fieldLink cn_C 239 cn_T "rest" "I" ∈ gw := gw_2 (List.mem_of_getElem? (i := 91) (by decide +kernel)) rfl
theorem gf_T_22 : Cond.fieldLink cn_T 22 cn_T "flow" "I" ∈ gw := gw_2 (List.mem_of_getElem? (i := 92) (by decide +kernel)) rfl
theorem gf_C_242 : Cond.fieldLink cn_C 242 cn_T "flow" "I" ∈ gw := gw_2 (List.mem_of_getElem? (i := 93) (by decide +kernel)) rfl
theorem gf_T_25 : Cond.fieldLink cn_T 25 cn_T "left" "I" ∈ gw := gw_2 (List.mem_of_getElem? (i := 94) (by decide +kernel)) rfl
theorem gf_C_245 : Cond.fieldLink cn_C 245 cn_T "left" "I" ∈ gw := gw_2 (List.mem_of_getElem? (i := 95) (by decide +kernel)) rfl
theorem gm_C_96 : Cond.methodLink cn_C 96 yy_H_take ∈ gw := gw_2 (List.mem_of_getElem? (i := 109) (by decide +kernel)) rfl
theorem gi_H_take : Cond.instanceMethod yy_H_take ∈ gw := gw_2 (List.mem_of_getElem? (i := 110) (by decide +kernel)) rfl
theorem gs_H_take : Cond.selects cn_H yy_H_take yy_H_take ∈ gw := gw_2 (List.mem_of_getElem? (i := 111) (by decide +kernel)) rfl
theorem gc_H_take : Cond.code yy_H_take bb_H_take 2 none ∈ gw := gw_2 (List.mem_of_getElem? (i := 112) (by decide +kernel)) rfl
theorem gm_L_107 : Cond.methodLink cn_L 107 yy_L_flow ∈ gw := gw_2 (List.mem_of_getElem? (i := 113) (by decide +kernel)) rfl
theorem gt_L_flow : Cond.static yy_L_flow ∈ gw := gw_2 (List.mem_of_getElem? (i := 114) (by decide +kernel)) rfl
theorem gk_L_33 : Cond.classLink cn_L 33 "java/lang/ArithmeticException" ∈ gw := gw_2 (List.mem_of_getElem? (i := 116) (by decide +kernel)) rfl
theorem gm_L_29 : Cond.methodLink cn_L 29 yy_C_flow ∈ gw := gw_2 (List.mem_of_getElem? (i := 117) (by decide +kernel)) rfl
theorem gi_C_flow : Cond.instanceMethod yy_C_flow ∈ gw := gw_2 (List.mem_of_getElem? (i := 118) (by decide +kernel)) rfl
theorem gs_C_flow : Cond.selects cn_C yy_C_flow yy_C_flow ∈ gw := gw_2 (List.mem_of_getElem? (i := 119) (by decide +kernel)) rfl
theorem gc_C_flow : Cond.code yy_C_flow bb_C_flow 8 (some .int) ∈ gw := gw_2 (List.mem_of_getElem? (i := 120) (by decide +kernel)) rfl
theorem gm_C_102 : Cond.methodLink cn_C 102 yy_C_countingTest ∈ gw := gw_2 (List.mem_of_getElem? (i := 122) (by decide +kernel)) rfl
theorem gt_C_countingTest : Cond.static yy_C_countingTest ∈ gw := gw_2 (List.mem_of_getElem? (i := 123) (by decide +kernel)) rfl
theorem gc_C_countingTest : Cond.code yy_C_countingTest bb_C_countingTest 2 (some (.object "HydrantRows$Test")) ∈ gw := gw_2 (List.mem_of_getElem? (i := 124) (by decide +kernel)) rfl
theorem gm_C_106 : Cond.methodLink cn_C 106 yy_C_needTold ∈ gw := gw_2 (List.mem_of_getElem? (i := 126) (by decide +kernel)) rfl
theorem gt_C_needTold : Cond.static yy_C_needTold ∈ gw := gw_2 (List.mem_of_getElem? (i := 127) (by decide +kernel)) rfl
theorem gc_C_needTold : Cond.code yy_C_needTold bb_C_needTold 2 none ∈ gw := gw_2 (List.mem_of_getElem? (i := 128) (by decide +kernel)) rfl
theorem gm_C_263 : Cond.methodLink cn_C 263 yy_T_canTell ∈ gw := gw_2 (List.mem_of_getElem? (i := 129) (by decide +kernel)) rfl
theorem gi_T_canTell : Cond.instanceMethod yy_T_canTell ∈ gw := gw_2 (List.mem_of_getElem? (i := 130) (by decide +kernel)) rfl
theorem gs_T_canTell : Cond.selects cn_T yy_T_canTell yy_T_canTell ∈ gw := gw_2 (List.mem_of_getElem? (i := 131) (by decide +kernel)) rfl
theorem gc_T_canTell : Cond.code yy_T_canTell bb_T_canTell 2 (some .boolean) ∈ gw := gw_2 (List.mem_of_getElem? (i := 132) (by decide +kernel)) rfl
theorem gm_T_28 : Cond.methodLink cn_T 28 yy_T_lowerAt ∈ gw := gw_2 (List.mem_of_getElem? (i := 133) (by decide +kernel)) rfl
theorem gi_T_lowerAt : Cond.instanceMethod yy_T_lowerAt ∈ gw := gw_2 (List.mem_of_getElem? (i := 134) (by decide +kernel)) rfl
theorem gs_T_lowerAt : Cond.selects cn_T yy_T_lowerAt yy_T_lowerAt ∈ gw := gw_2 (List.mem_of_getElem? (i := 135) (by decide +kernel)) rfl
theorem gc_T_lowerAt : Cond.code yy_T_lowerAt bb_T_lowerAt 2 (some .int) ∈ gw := gw_2 (List.mem_of_getElem? (i := 136) (by decide +kernel)) rfl
theorem gk_C_267 : Cond.classLink cn_C 267 "java/lang/ArithmeticException" ∈ gw := gw_2 (List.mem_of_getElem? (i := 137) (by decide +kernel)) rfl
theorem gm_C_110 : Cond.methodLink cn_C 110 yy_T_upperAt ∈ gw := gw_2 (List.mem_of_getElem? (i := 153) (by decide +kernel)) rfl
theorem gi_T_upperAt : Cond.instanceMethod yy_T_upperAt ∈ gw := gw_2 (List.mem_of_getElem? (i := 154) (by decide +kernel)) rfl
theorem gs_T_upperAt : Cond.selects cn_T yy_T_upperAt yy_T_upperAt ∈ gw := gw_2 (List.mem_of_getElem? (i := 155) (by decide +kernel)) rfl
theorem gc_T_upperAt : Cond.code yy_T_upperAt bb_T_upperAt 2 (some .int) ∈ gw := gw_2 (List.mem_of_getElem? (i := 156) (by decide +kernel)) rfl
theorem gm_C_114 : Cond.methodLink cn_C 114 yy_T_lowerAt ∈ gw := gw_2 (List.mem_of_getElem? (i := 157) (by decide +kernel)) rfl
theorem gm_C_117 : Cond.methodLink cn_C 117 yy_C_commonDivisor ∈ gw := gw_2 (List.mem_of_getElem? (i := 158) (by decide +kernel)) rfl
theorem gt_C_commonDivisor : Cond.static yy_C_commonDivisor ∈ gw := gw_2 (List.mem_of_getElem? (i := 159) (by decide +kernel)) rfl
theorem gc_C_commonDivisor : Cond.code yy_C_commonDivisor bb_C_commonDivisor 6 (some .int) ∈ gw := gw_2 (List.mem_of_getElem? (i := 160) (by decide +kernel)) rfl
theorem gm_C_121 : Cond.methodLink cn_C 121 Lib.Math.max.name ∈ gw := gw_2 (List.mem_of_getElem? (i := 161) (by decide +kernel)) rfl
theorem gt_N_max : Cond.static Lib.Math.max.name ∈ gw := gw_2 (List.mem_of_getElem? (i := 162) (by decide +kernel)) rfl
theorem gc_N_max : Cond.code Lib.Math.max.name Lib.Math.max.code 2 (some .int) ∈ gw := gw_2 (List.mem_of_getElem? (i := 163) (by decide +kernel)) rfl
theorem gm_L_111 : Cond.methodLink cn_L 111 yy_L_sort ∈ gw := gw_2 (List.mem_of_getElem? (i := 164) (by decide +kernel)) rfl
theorem gt_L_sort : Cond.static yy_L_sort ∈ gw := gw_2 (List.mem_of_getElem? (i := 165) (by decide +kernel)) rfl
theorem gm_L_35 : Cond.methodLink cn_L 35 yy_C_sort ∈ gw := gw_2 (List.mem_of_getElem? (i := 167) (by decide +kernel)) rfl
theorem gi_C_sort : Cond.instanceMethod yy_C_sort ∈ gw := gw_2 (List.mem_of_getElem? (i := 168) (by decide +kernel)) rfl
theorem gs_C_sort : Cond.selects cn_C yy_C_sort yy_C_sort ∈ gw := gw_2 (List.mem_of_getElem? (i := 169) (by decide +kernel)) rfl
theorem gc_C_sort : Cond.code yy_C_sort bb_C_sort 3 (some .int) ∈ gw := gw_2 (List.mem_of_getElem? (i := 170) (by decide +kernel)) rfl
theorem gm_C_126 : Cond.methodLink cn_C 126 yy_T_wholeAt ∈ gw := gw_2 (List.mem_of_getElem? (i := 171) (by decide +kernel)) rfl
theorem gi_T_wholeAt : Cond.instanceMethod yy_T_wholeAt ∈ gw := gw_2 (List.mem_of_getElem? (i := 172) (by decide +kernel)) rfl
theorem gs_T_wholeAt : Cond.selects cn_T yy_T_wholeAt yy_T_wholeAt ∈ gw := gw_2 (List.mem_of_getElem? (i := 173) (by decide +kernel)) rfl
theorem gc_T_wholeAt : Cond.code yy_T_wholeAt bb_T_wholeAt 3 (some .int) ∈ gw := gw_2 (List.mem_of_getElem? (i := 174) (by decide +kernel)) rfl
theorem gm_T_32 : Cond.methodLink cn_T 32 yy_T_upperAt ∈ gw := gw_2 (List.mem_of_getElem? (i := 175) (by decide +kernel)) rfl
theorem gm_C_129 : Cond.methodLink cn_C 129 Lib.Math.min.name ∈ gw := gw_2 (List.mem_of_getElem? (i := 176) (by decide +kernel)) rfl
theorem gt_N_min : Cond.static Lib.Math.min.name ∈ gw := gw_2 (List.mem_of_getElem? (i := 177) (by decide +kernel)) rfl
theorem gc_N_min : Cond.code Lib.Math.min.name Lib.Math.min.code 2 (some .int) ∈ gw := gw_2 (List.mem_of_getElem? (i := 178) (by decide +kernel)) rfl
theorem gm_L_115 : Cond.methodLink cn_L 115 yy_L_defect ∈ gw := gw_2 (List.mem_of_getElem? (i := 179) (by decide +kernel)) rfl
theorem gt_L_defect : Cond.static yy_L_defect ∈ gw := gw_2 (List.mem_of_getElem? (i := 180) (by decide +kernel)) rfl
theorem gm_L_39 : Cond.methodLink cn_L 39 yy_C_defect ∈ gw := gw_2 (List.mem_of_getElem? (i := 182) (by decide +kernel)) rfl
theorem gi_C_defect : Cond.instanceMethod yy_C_defect ∈ gw := gw_2 (List.mem_of_getElem? (i := 183) (by decide +kernel)) rfl
theorem gs_C_defect : Cond.selects cn_C yy_C_defect yy_C_defect ∈ gw := gw_2 (List.mem_of_getElem? (i := 184) (by decide +kernel)) rfl
theorem gc_C_defect : Cond.code yy_C_defect bb_C_defect 4 none ∈ gw := gw_2 (List.mem_of_getElem? (i := 185) (by decide +kernel)) rfl
theorem gm_L_118 : Cond.methodLink cn_L 118 yy_L_works ∈ gw := gw_2 (List.mem_of_getElem? (i := 187) (by decide +kernel)) rfl
theorem gt_L_works : Cond.static yy_L_works ∈ gw := gw_2 (List.mem_of_getElem? (i := 188) (by decide +kernel)) rfl
theorem gm_L_42 : Cond.methodLink cn_L 42 yy_C_works ∈ gw := gw_2 (List.mem_of_getElem? (i := 190) (by decide +kernel)) rfl
theorem gi_C_works : Cond.instanceMethod yy_C_works ∈ gw := gw_2 (List.mem_of_getElem? (i := 191) (by decide +kernel)) rfl
theorem gs_C_works : Cond.selects cn_C yy_C_works yy_C_works ∈ gw := gw_2 (List.mem_of_getElem? (i := 192) (by decide +kernel)) rfl
theorem gc_C_works : Cond.code yy_C_works bb_C_works 5 none ∈ gw := gw_2 (List.mem_of_getElem? (i := 193) (by decide +kernel)) rfl
theorem gm_C_142 : Cond.methodLink cn_C 142 yy_H_hasWorksWithin ∈ gw := gw_2 (List.mem_of_getElem? (i := 195) (by decide +kernel)) rfl
theorem gi_H_hasWorksWithin : Cond.instanceMethod yy_H_hasWorksWithin ∈ gw := gw_2 (List.mem_of_getElem? (i := 196) (by decide +kernel)) rfl
theorem gs_H_hasWorksWithin : Cond.selects cn_H yy_H_hasWorksWithin yy_H_hasWorksWithin ∈ gw := gw_2 (List.mem_of_getElem? (i := 197) (by decide +kernel)) rfl
theorem gc_H_hasWorksWithin : Cond.code yy_H_hasWorksWithin bb_H_hasWorksWithin 7 (some .boolean) ∈ gw := gw_2 (List.mem_of_getElem? (i := 198) (by decide +kernel)) rfl
theorem gm_H_55 : Cond.methodLink cn_H 55 yy_O_meet ∈ gw := gw_2 (List.mem_of_getElem? (i := 199) (by decide +kernel)) rfl
theorem gi_O_meet : Cond.instanceMethod yy_O_meet ∈ gw := gw_2 (List.mem_of_getElem? (i := 200) (by decide +kernel)) rfl
theorem gs_O_meet : Cond.selects cn_O yy_O_meet yy_O_meet ∈ gw := gw_2 (List.mem_of_getElem? (i := 201) (by decide +kernel)) rfl
theorem gc_O_meet : Cond.code yy_O_meet bb_O_meet 3 (some .boolean) ∈ gw := gw_2 (List.mem_of_getElem? (i := 202) (by decide +kernel)) rfl
theorem gm_C_148 : Cond.methodLink cn_C 148 yy_H_addWorks ∈ gw := gw_2 (List.mem_of_getElem? (i := 204) (by decide +kernel)) rfl
theorem gi_H_addWorks : Cond.instanceMethod yy_H_addWorks ∈ gw := gw_2 (List.mem_of_getElem? (i := 205) (by decide +kernel)) rfl
theorem gs_H_addWorks : Cond.selects cn_H yy_H_addWorks yy_H_addWorks ∈ gw := gw_2 (List.mem_of_getElem? (i := 206) (by decide +kernel)) rfl
theorem gc_H_addWorks : Cond.code yy_H_addWorks bb_H_addWorks 3 (some .boolean) ∈ gw := gw_2 (List.mem_of_getElem? (i := 207) (by decide +kernel)) rfl
theorem gx_O : Cond.instantiable cn_O 2 ∈ gw := gw_2 (List.mem_of_getElem? (i := 208) (by decide +kernel)) rfl
theorem gm_H_59 : Cond.methodLink cn_H 59 yy_O_init ∈ gw := gw_2 (List.mem_of_getElem? (i := 209) (by decide +kernel)) rfl
theorem gi_O_init : Cond.instanceMethod yy_O_init ∈ gw := gw_2 (List.mem_of_getElem? (i := 210) (by decide +kernel)) rfl
theorem gc_O_init : Cond.code yy_O_init bb_O_init 3 none ∈ gw := gw_2 (List.mem_of_getElem? (i := 211) (by decide +kernel)) rfl
theorem gm_O_1 : Cond.methodLink cn_O 1 objectInit ∈ gw := gw_2 (List.mem_of_getElem? (i := 212) (by decide +kernel)) rfl
theorem gf_O_7 : Cond.fieldLink cn_O 7 cn_O "from" "I" ∈ gw := gw_2 (List.mem_of_getElem? (i := 213) (by decide +kernel)) rfl
theorem gf_O_13 : Cond.fieldLink cn_O 13 cn_O "to" "I" ∈ gw := gw_2 (List.mem_of_getElem? (i := 214) (by decide +kernel)) rfl
theorem gm_L_122 : Cond.methodLink cn_L 122 yy_L_season ∈ gw := gw_2 (List.mem_of_getElem? (i := 221) (by decide +kernel)) rfl
theorem gt_L_season : Cond.static yy_L_season ∈ gw := gw_2 (List.mem_of_getElem? (i := 222) (by decide +kernel)) rfl
theorem gm_L_46 : Cond.methodLink cn_L 46 yy_C_season ∈ gw := gw_2 (List.mem_of_getElem? (i := 224) (by decide +kernel)) rfl
theorem gi_C_season : Cond.instanceMethod yy_C_season ∈ gw := gw_2 (List.mem_of_getElem? (i := 225) (by decide +kernel)) rfl
theorem gs_C_season : Cond.selects cn_C yy_C_season yy_C_season ∈ gw := gw_2 (List.mem_of_getElem? (i := 226) (by decide +kernel)) rfl
theorem gc_C_season : Cond.code yy_C_season bb_C_season 5 none ∈ gw := gw_2 (List.mem_of_getElem? (i := 227) (by decide +kernel)) rfl
theorem gm_C_160 : Cond.methodLink cn_C 160 yy_H_setDry ∈ gw := gw_2 (List.mem_of_getElem? (i := 230) (by decide +kernel)) rfl
theorem gi_H_setDry : Cond.instanceMethod yy_H_setDry ∈ gw := gw_2 (List.mem_of_getElem? (i := 231) (by decide +kernel)) rfl
theorem gs_H_setDry : Cond.selects cn_H yy_H_setDry yy_H_setDry ∈ gw := gw_2 (List.mem_of_getElem? (i := 232) (by decide +kernel)) rfl
theorem gc_H_setDry : Cond.code yy_H_setDry bb_H_setDry 4 none ∈ gw := gw_2 (List.mem_of_getElem? (i := 233) (by decide +kernel)) rfl
theorem gm_L_126 : Cond.methodLink cn_L 126 yy_L_usable ∈ gw := gw_2 (List.mem_of_getElem? (i := 234) (by decide +kernel)) rfl
theorem gt_L_usable : Cond.static yy_L_usable ∈ gw := gw_2 (List.mem_of_getElem? (i := 235) (by decide +kernel)) rfl
theorem gm_L_50 : Cond.methodLink cn_L 50 yy_C_usable ∈ gw := gw_2 (List.mem_of_getElem? (i := 237) (by decide +kernel)) rfl
theorem gi_C_usable : Cond.instanceMethod yy_C_usable ∈ gw := gw_2 (List.mem_of_getElem? (i := 238) (by decide +kernel)) rfl
theorem gs_C_usable : Cond.selects cn_C yy_C_usable yy_C_usable ∈ gw := gw_2 (List.mem_of_getElem? (i := 239) (by decide +kernel)) rfl
theorem gc_C_usable : Cond.code yy_C_usable bb_C_usable 4 (some .boolean) ∈ gw := gw_3 (List.mem_of_getElem? (i := 0) (by decide +kernel)) rfl
theorem gm_C_164 : Cond.methodLink cn_C 164 yy_H_isUsable ∈ gw := gw_3 (List.mem_of_getElem? (i := 1) (by decide +kernel)) rfl
theorem gi_H_isUsable : Cond.instanceMethod yy_H_isUsable ∈ gw := gw_3 (List.mem_of_getElem? (i := 2) (by decide +kernel)) rfl
theorem gs_H_isUsable : Cond.selects cn_H yy_H_isUsable yy_H_isUsable ∈ gw := gw_3 (List.mem_of_getElem? (i := 3) (by decide +kernel)) rfl
theorem gc_H_isUsable : Cond.code yy_H_isUsable bb_H_isUsable 3 (some .boolean) ∈ gw := gw_3 (List.mem_of_getElem? (i := 4) (by decide +kernel)) rfl
theorem gm_H_62 : Cond.methodLink cn_H 62 yy_H_isDry ∈ gw := gw_3 (List.mem_of_getElem? (i := 5) (by decide +kernel)) rfl
theorem gi_H_isDry : Cond.instanceMethod yy_H_isDry ∈ gw := gw_3 (List.mem_of_getElem? (i := 6) (by decide +kernel)) rfl
theorem gs_H_isDry : Cond.selects cn_H yy_H_isDry yy_H_isDry ∈ gw := gw_3 (List.mem_of_getElem? (i := 7) (by decide +kernel)) rfl
theorem gc_H_isDry : Cond.code yy_H_isDry bb_H_isDry 3 (some .boolean) ∈ gw := gw_3 (List.mem_of_getElem? (i := 8) (by decide +kernel)) rfl
theorem gm_H_66 : Cond.methodLink cn_H 66 yy_H_hasWorksWithin ∈ gw := gw_3 (List.mem_of_getElem? (i := 9) (by decide +kernel)) rfl
theorem gm_L_130 : Cond.methodLink cn_L 130 yy_L_near ∈ gw := gw_3 (List.mem_of_getElem? (i := 10) (by decide +kernel)) rfl
theorem gt_L_near : Cond.static yy_L_near ∈ gw := gw_3 (List.mem_of_getElem? (i := 11) (by decide +kernel)) rfl
theorem gm_L_54 : Cond.methodLink cn_L 54 yy_C_near ∈ gw := gw_3 (List.mem_of_getElem? (i := 13) (by decide +kernel)) rfl
theorem gi_C_near : Cond.instanceMethod yy_C_near ∈ gw := gw_3 (List.mem_of_getElem? (i := 14) (by decide +kernel)) rfl
theorem gs_C_near : Cond.selects cn_C yy_C_near yy_C_near ∈ gw := gw_3 (List.mem_of_getElem? (i := 15) (by decide +kernel)) rfl
theorem gc_C_near : Cond.code yy_C_near bb_C_near 9 (some .int) ∈ gw := gw_3 (List.mem_of_getElem? (i := 16) (by decide +kernel)) rfl
theorem gm_C_168 : Cond.methodLink cn_C 168 yy_C_needNotBelowZero ∈ gw := gw_3 (List.mem_of_getElem? (i := 17) (by decide +kernel)) rfl
theorem gt_C_needNotBelowZero : Cond.static yy_C_needNotBelowZero ∈ gw := gw_3 (List.mem_of_getElem? (i := 18) (by decide +kernel)) rfl
theorem gc_C_needNotBelowZero : Cond.code yy_C_needNotBelowZero bb_C_needNotBelowZero 1 none ∈ gw := gw_3 (List.mem_of_getElem? (i := 19) (by decide +kernel)) rfl
theorem gm_C_171 : Cond.methodLink cn_C 171 yy_K_clear ∈ gw := gw_3 (List.mem_of_getElem? (i := 21) (by decide +kernel)) rfl
theorem gi_K_clear : Cond.instanceMethod yy_K_clear ∈ gw := gw_3 (List.mem_of_getElem? (i := 22) (by decide +kernel)) rfl
theorem gs_K_clear : Cond.selects cn_K yy_K_clear yy_K_clear ∈ gw := gw_3 (List.mem_of_getElem? (i := 23) (by decide +kernel)) rfl
theorem gc_K_clear : Cond.code yy_K_clear bb_K_clear 1 none ∈ gw := gw_3 (List.mem_of_getElem? (i := 24) (by decide +kernel)) rfl
theorem gm_C_174 : Cond.methodLink cn_C 174 yy_H_hoseFrom ∈ gw := gw_3 (List.mem_of_getElem? (i := 25) (by decide +kernel)) rfl
theorem gi_H_hoseFrom : Cond.instanceMethod yy_H_hoseFrom ∈ gw := gw_3 (List.mem_of_getElem? (i := 26) (by decide +kernel)) rfl
theorem gs_H_hoseFrom : Cond.selects cn_H yy_H_hoseFrom yy_H_hoseFrom ∈ gw := gw_3 (List.mem_of_getElem? (i := 27) (by decide +kernel)) rfl
theorem gc_H_hoseFrom : Cond.code yy_H_hoseFrom bb_H_hoseFrom 3 (some .int) ∈ gw := gw_3 (List.mem_of_getElem? (i := 28) (by decide +kernel)) rfl
theorem gt_C_hoseLength : Cond.static yy_C_hoseLength ∈ gw := gw_3 (List.mem_of_getElem? (i := 30) (by decide +kernel)) rfl
theorem gc_C_hoseLength : Cond.code yy_C_hoseLength bb_C_hoseLength 4 (some .int) ∈ gw := gw_3 (List.mem_of_getElem? (i := 31) (by decide +kernel)) rfl
theorem gm_C_294 : Cond.methodLink cn_C 294 Lib.Math.abs.name ∈ gw := gw_3 (List.mem_of_getElem? (i := 32) (by decide +kernel)) rfl
theorem gt_N_abs : Cond.static Lib.Math.abs.name ∈ gw := gw_3 (List.mem_of_getElem? (i := 33) (by decide +kernel)) rfl
theorem gc_N_abs : Cond.code Lib.Math.abs.name Lib.Math.abs.code 1 (some .int) ∈ gw := gw_3 (List.mem_of_getElem? (i := 34) (by decide +kernel)) rfl
theorem gm_C_180 : Cond.methodLink cn_C 180 yy_K_insert ∈ gw := gw_3 (List.mem_of_getElem? (i := 35) (by decide +kernel)) rfl
theorem gi_K_insert : Cond.instanceMethod yy_K_insert ∈ gw := gw_3 (List.mem_of_getElem? (i := 36) (by decide +kernel)) rfl
theorem gs_K_insert : Cond.selects cn_K yy_K_insert yy_K_insert ∈ gw := gw_3 (List.mem_of_getElem? (i := 37) (by decide +kernel)) rfl
theorem gc_K_insert : Cond.code yy_K_insert bb_K_insert 5 none ∈ gw := gw_3 (List.mem_of_getElem? (i := 38) (by decide +kernel)) rfl
theorem gm_C_183 : Cond.methodLink cn_C 183 yy_K_numberAt ∈ gw := gw_3 (List.mem_of_getElem? (i := 39) (by decide +kernel)) rfl
theorem gi_K_numberAt : Cond.instanceMethod yy_K_numberAt ∈ gw := gw_3 (List.mem_of_getElem? (i := 40) (by decide +kernel)) rfl
theorem gs_K_numberAt : Cond.selects cn_K yy_K_numberAt yy_K_numberAt ∈ gw := gw_3 (List.mem_of_getElem? (i := 41) (by decide +kernel)) rfl
theorem gc_K_numberAt : Cond.code yy_K_numberAt bb_K_numberAt 2 (some .int) ∈ gw := gw_3 (List.mem_of_getElem? (i := 42) (by decide +kernel)) rfl
theorem gm_L_133 : Cond.methodLink cn_L 133 yy_L_both ∈ gw := gw_3 (List.mem_of_getElem? (i := 43) (by decide +kernel)) rfl
theorem gt_L_both : Cond.static yy_L_both ∈ gw := gw_3 (List.mem_of_getElem? (i := 44) (by decide +kernel)) rfl
theorem gm_L_57 : Cond.methodLink cn_L 57 yy_C_both ∈ gw := gw_3 (List.mem_of_getElem? (i := 46) (by decide +kernel)) rfl
theorem gi_C_both : Cond.instanceMethod yy_C_both ∈ gw := gw_3 (List.mem_of_getElem? (i := 47) (by decide +kernel)) rfl
theorem gs_C_both : Cond.selects cn_C yy_C_both yy_C_both ∈ gw := gw_3 (List.mem_of_getElem? (i := 48) (by decide +kernel)) rfl
theorem gc_C_both : Cond.code yy_C_both bb_C_both 9 (some .int) ∈ gw := gw_3 (List.mem_of_getElem? (i := 49) (by decide +kernel)) rfl
theorem gm_C_191 : Cond.methodLink cn_C 191 yy_C_limitOf ∈ gw := gw_3 (List.mem_of_getElem? (i := 51) (by decide +kernel)) rfl
theorem gi_C_limitOf : Cond.instanceMethod yy_C_limitOf ∈ gw := gw_3 (List.mem_of_getElem? (i := 53) (by decide +kernel)) rfl
theorem gc_C_limitOf : Cond.code yy_C_limitOf bb_C_limitOf 2 (some .int) ∈ gw := gw_3 (List.mem_of_getElem? (i := 54) (by decide +kernel)) rfl
theorem gm_L_136 : Cond.methodLink cn_L 136 yy_L_supply ∈ gw := gw_3 (List.mem_of_getElem? (i := 55) (by decide +kernel)) rfl
theorem gt_L_supply : Cond.static yy_L_supply ∈ gw := gw_3 (List.mem_of_getElem? (i := 56) (by decide +kernel)) rfl
theorem gm_L_60 : Cond.methodLink cn_L 60 yy_C_supply ∈ gw := gw_3 (List.mem_of_getElem? (i := 58) (by decide +kernel)) rfl
theorem gi_C_supply : Cond.instanceMethod yy_C_supply ∈ gw := gw_3 (List.mem_of_getElem? (i := 59) (by decide +kernel)) rfl
theorem gs_C_supply : Cond.selects cn_C yy_C_supply yy_C_supply ∈ gw := gw_3 (List.mem_of_getElem? (i := 60) (by decide +kernel)) rfl
theorem gc_C_supply : Cond.code yy_C_supply bb_C_supply 8 (some .int) ∈ gw := gw_3 (List.mem_of_getElem? (i := 61) (by decide +kernel)) rfl
theorem gq_C_194 : Cond.constant cn_C 194 (200000) ∈ gw := gw_3 (List.mem_of_getElem? (i := 62) (by decide +kernel)) rfl
theorem gm_C_197 : Cond.methodLink cn_C 197 yy_C_supplyOfMain ∈ gw := gw_3 (List.mem_of_getElem? (i := 64) (by decide +kernel)) rfl
theorem gi_C_supplyOfMain : Cond.instanceMethod yy_C_supplyOfMain ∈ gw := gw_3 (List.mem_of_getElem? (i := 66) (by decide +kernel)) rfl
theorem gc_C_supplyOfMain : Cond.code yy_C_supplyOfMain bb_C_supplyOfMain 12 (some .int) ∈ gw := gw_3 (List.mem_of_getElem? (i := 67) (by decide +kernel)) rfl
theorem gm_C_287 : Cond.methodLink cn_C 287 yy_H_givenAt ∈ gw := gw_3 (List.mem_of_getElem? (i := 68) (by decide +kernel)) rfl
theorem gi_H_givenAt : Cond.instanceMethod yy_H_givenAt ∈ gw := gw_3 (List.mem_of_getElem? (i := 69) (by decide +kernel)) rfl
theorem gs_H_givenAt : Cond.selects cn_H yy_H_givenAt yy_H_givenAt ∈ gw := gw_3 (List.mem_of_getElem? (i := 70) (by decide +kernel)) rfl
theorem gc_H_givenAt : Cond.code yy_H_givenAt bb_H_givenAt 2 (some .int) ∈ gw := gw_3 (List.mem_of_getElem? (i := 71) (by decide +kernel)) rfl
theorem gm_H_73 : Cond.methodLink cn_H 73 yy_T_wholeAt ∈ gw := gw_3 (List.mem_of_getElem? (i := 72) (by decide +kernel)) rfl
theorem gm_L_141 : Cond.methodLink cn_L 141 yy_L_round ∈ gw := gw_3 (List.mem_of_getElem? (i := 73) (by decide +kernel)) rfl
theorem gt_L_round : Cond.static yy_L_round ∈ gw := gw_3 (List.mem_of_getElem? (i := 74) (by decide +kernel)) rfl
theorem gm_L_63 : Cond.methodLink cn_L 63 yy_C_round ∈ gw := gw_3 (List.mem_of_getElem? (i := 76) (by decide +kernel)) rfl
theorem gi_C_round : Cond.instanceMethod yy_C_round ∈ gw := gw_3 (List.mem_of_getElem? (i := 77) (by decide +kernel)) rfl
theorem gs_C_round : Cond.selects cn_C yy_C_round yy_C_round ∈ gw := gw_3 (List.mem_of_getElem? (i := 78) (by decide +kernel)) rfl
theorem gc_C_round : Cond.code yy_C_round bb_C_round 11 (some .int) ∈ gw := gw_3 (List.mem_of_getElem? (i := 79) (by decide +kernel)) rfl
theorem gm_C_201 : Cond.methodLink cn_C 201 yy_C_toldStop ∈ gw := gw_3 (List.mem_of_getElem? (i := 80) (by decide +kernel)) rfl
theorem gt_C_toldStop : Cond.static yy_C_toldStop ∈ gw := gw_3 (List.mem_of_getElem? (i := 81) (by decide +kernel)) rfl
theorem gc_C_toldStop : Cond.code yy_C_toldStop bb_C_toldStop 3 (some .int) ∈ gw := gw_3 (List.mem_of_getElem? (i := 82) (by decide +kernel)) rfl
theorem gq_C_290 : Cond.constantLong cn_C 290 (63) ∈ gw := gw_3 (List.mem_of_getElem? (i := 83) (by decide +kernel)) rfl
theorem gm_C_207 : Cond.methodLink cn_C 207 yy_C_setOfStops ∈ gw := gw_3 (List.mem_of_getElem? (i := 85) (by decide +kernel)) rfl
theorem gt_C_setOfStops : Cond.static yy_C_setOfStops ∈ gw := gw_3 (List.mem_of_getElem? (i := 86) (by decide +kernel)) rfl
theorem gc_C_setOfStops : Cond.code yy_C_setOfStops bb_C_setOfStops 8 (some .long) ∈ gw := gw_3 (List.mem_of_getElem? (i := 87) (by decide +kernel)) rfl
theorem gm_C_211 : Cond.methodLink cn_C 211 yy_A_clear ∈ gw := gw_3 (List.mem_of_getElem? (i := 89) (by decide +kernel)) rfl
theorem gi_A_clear : Cond.instanceMethod yy_A_clear ∈ gw := gw_3 (List.mem_of_getElem? (i := 90) (by decide +kernel)) rfl
theorem gs_A_clear : Cond.selects cn_A yy_A_clear yy_A_clear ∈ gw := gw_3 (List.mem_of_getElem? (i := 91) (by decide +kernel)) rfl
theorem gc_A_clear : Cond.code yy_A_clear bb_A_clear 2 none ∈ gw := gw_3 (List.mem_of_getElem? (i := 92) (by decide +kernel)) rfl
theorem gm_C_212 : Cond.methodLink cn_C 212 yy_A_choose ∈ gw := gw_3 (List.mem_of_getElem? (i := 93) (by decide +kernel)) rfl
theorem gi_A_choose : Cond.instanceMethod yy_A_choose ∈ gw := gw_3 (List.mem_of_getElem? (i := 94) (by decide +kernel)) rfl
theorem gs_A_choose : Cond.selects cn_A yy_A_choose yy_A_choose ∈ gw := gw_3 (List.mem_of_getElem? (i := 95) (by decide +kernel)) rfl
theorem gc_A_choose : Cond.code yy_A_choose bb_A_choose 2 none ∈ gw := gw_3 (List.mem_of_getElem? (i := 96) (by decide +kernel)) rfl
theorem gm_C_216 : Cond.methodLink cn_C 216 yy_A_leastMetres ∈ gw := gw_3 (List.mem_of_getElem? (i := 97) (by decide +kernel)) rfl
theorem gi_A_leastMetres : Cond.instanceMethod yy_A_leastMetres ∈ gw := gw_3 (List.mem_of_getElem? (i := 98) (by decide +kernel)) rfl
theorem gs_A_leastMetres : Cond.selects cn_A yy_A_leastMetres yy_A_leastMetres ∈ gw := gw_3 (List.mem_of_getElem? (i := 99) (by decide +kernel)) rfl
theorem gc_A_leastMetres : Cond.code yy_A_leastMetres bb_A_leastMetres 1 (some .int) ∈ gw := gw_3 (List.mem_of_getElem? (i := 100) (by decide +kernel)) rfl
theorem gq_A_33 : Cond.constant cn_A 33 (2147483647) ∈ gw := gw_3 (List.mem_of_getElem? (i := 101) (by decide +kernel)) rfl
theorem gm_A_34 : Cond.methodLink cn_A 34 yy_A_goOn ∈ gw := gw_3 (List.mem_of_getElem? (i := 102) (by decide +kernel)) rfl
theorem gi_A_goOn : Cond.instanceMethod yy_A_goOn ∈ gw := gw_3 (List.mem_of_getElem? (i := 104) (by decide +kernel)) rfl
theorem gc_A_goOn : Cond.code yy_A_goOn bb_A_goOn 9 none ∈ gw := gw_3 (List.mem_of_getElem? (i := 105) (by decide +kernel)) rfl
theorem gm_A_42 : Cond.methodLink cn_A 42 yy_A_keepWay ∈ gw := gw_3 (List.mem_of_getElem? (i := 107) (by decide +kernel)) rfl
theorem gi_A_keepWay : Cond.instanceMethod yy_A_keepWay ∈ gw := gw_3 (List.mem_of_getElem? (i := 109) (by decide +kernel)) rfl
theorem gc_A_keepWay : Cond.code yy_A_keepWay bb_A_keepWay 3 none ∈ gw := gw_3 (List.mem_of_getElem? (i := 110) (by decide +kernel)) rfl
theorem gm_A_55 : Cond.methodLink cn_A 55 yy_H_hoseFrom ∈ gw := gw_3 (List.mem_of_getElem? (i := 111) (by decide +kernel)) rfl
theorem gm_L_145 : Cond.methodLink cn_L 145 yy_L_stop ∈ gw := gw_3 (List.mem_of_getElem? (i := 112) (by decide +kernel)) rfl
theorem gt_L_stop : Cond.static yy_L_stop ∈ gw := gw_3 (List.mem_of_getElem? (i := 113) (by decide +kernel)) rfl
theorem gm_L_67 : Cond.methodLink cn_L 67 yy_C_stop ∈ gw := gw_3 (List.mem_of_getElem? (i := 115) (by decide +kernel)) rfl
theorem gi_C_stop : Cond.instanceMethod yy_C_stop ∈ gw := gw_3 (List.mem_of_getElem? (i := 116) (by decide +kernel)) rfl
theorem gs_C_stop : Cond.selects cn_C yy_C_stop yy_C_stop ∈ gw := gw_3 (List.mem_of_getElem? (i := 117) (by decide +kernel)) rfl
theorem gc_C_stop : Cond.code yy_C_stop bb_C_stop 2 (some .int) ∈ gw := gw_3 (List.mem_of_getElem? (i := 118) (by decide +kernel)) rfl
theorem gm_C_220 : Cond.methodLink cn_C 220 yy_A_stopAt ∈ gw := gw_3 (List.mem_of_getElem? (i := 119) (by decide +kernel)) rfl
theorem gi_A_stopAt : Cond.instanceMethod yy_A_stopAt ∈ gw := gw_3 (List.mem_of_getElem? (i := 120) (by decide +kernel)) rfl
theorem gs_A_stopAt : Cond.selects cn_A yy_A_stopAt yy_A_stopAt ∈ gw := gw_3 (List.mem_of_getElem? (i := 121) (by decide +kernel)) rfl
theorem gc_A_stopAt : Cond.code yy_A_stopAt bb_A_stopAt 2 (some .int) ∈ gw := gw_3 (List.mem_of_getElem? (i := 122) (by decide +kernel)) rfl
theorem gm_L_148 : Cond.methodLink cn_L 148 yy_L_overdue ∈ gw := gw_3 (List.mem_of_getElem? (i := 123) (by decide +kernel)) rfl
theorem gt_L_overdue : Cond.static yy_L_overdue ∈ gw := gw_3 (List.mem_of_getElem? (i := 124) (by decide +kernel)) rfl
theorem gm_L_70 : Cond.methodLink cn_L 70 yy_C_overdue ∈ gw := gw_3 (List.mem_of_getElem? (i := 126) (by decide +kernel)) rfl
theorem gi_C_overdue : Cond.instanceMethod yy_C_overdue ∈ gw := gw_3 (List.mem_of_getElem? (i := 127) (by decide +kernel)) rfl
theorem gs_C_overdue : Cond.selects cn_C yy_C_overdue yy_C_overdue ∈ gw := gw_3 (List.mem_of_getElem? (i := 128) (by decide +kernel)) rfl
theorem gc_C_overdue : Cond.code yy_C_overdue bb_C_overdue 8 (some .int) ∈ gw := gw_3 (List.mem_of_getElem? (i := 129) (by decide +kernel)) rfl
theorem gm_C_225 : Cond.methodLink cn_C 225 yy_H_isOverdue ∈ gw := gw_3 (List.mem_of_getElem? (i := 131) (by decide +kernel)) rfl
theorem gi_H_isOverdue : Cond.instanceMethod yy_H_isOverdue ∈ gw := gw_3 (List.mem_of_getElem? (i := 132) (by decide +kernel)) rfl
theorem gs_H_isOverdue : Cond.selects cn_H yy_H_isOverdue yy_H_isOverdue ∈ gw := gw_3 (List.mem_of_getElem? (i := 133) (by decide +kernel)) rfl
theorem gc_H_isOverdue : Cond.code yy_H_isOverdue bb_H_isOverdue 3 (some .boolean) ∈ gw := gw_3 (List.mem_of_getElem? (i := 134) (by decide +kernel)) rfl
theorem gm_C_228 : Cond.methodLink cn_C 228 yy_H_overdueWeight ∈ gw := gw_3 (List.mem_of_getElem? (i := 135) (by decide +kernel)) rfl
theorem gi_H_overdueWeight : Cond.instanceMethod yy_H_overdueWeight ∈ gw := gw_3 (List.mem_of_getElem? (i := 136) (by decide +kernel)) rfl
theorem gs_H_overdueWeight : Cond.selects cn_H yy_H_overdueWeight yy_H_overdueWeight ∈ gw := gw_3 (List.mem_of_getElem? (i := 137) (by decide +kernel)) rfl
theorem gc_H_overdueWeight : Cond.code yy_H_overdueWeight bb_H_overdueWeight 1 (some .int) ∈ gw := gw_3 (List.mem_of_getElem? (i := 138) (by decide +kernel)) rfl
theorem gm_L_151 : Cond.methodLink cn_L 151 yy_L_testAt ∈ gw := gw_3 (List.mem_of_getElem? (i := 139) (by decide +kernel)) rfl
theorem gt_L_testAt : Cond.static yy_L_testAt ∈ gw := gw_3 (List.mem_of_getElem? (i := 140) (by decide +kernel)) rfl
theorem gm_L_73 : Cond.methodLink cn_L 73 yy_C_testAt ∈ gw := gw_3 (List.mem_of_getElem? (i := 142) (by decide +kernel)) rfl
theorem gi_C_testAt : Cond.instanceMethod yy_C_testAt ∈ gw := gw_3 (List.mem_of_getElem? (i := 143) (by decide +kernel)) rfl
theorem gs_C_testAt : Cond.selects cn_C yy_C_testAt yy_C_testAt ∈ gw := gw_3 (List.mem_of_getElem? (i := 144) (by decide +kernel)) rfl
theorem gc_C_testAt : Cond.code yy_C_testAt bb_C_testAt 4 (some .int) ∈ gw := gw_3 (List.mem_of_getElem? (i := 145) (by decide +kernel)) rfl
theorem gm_L_154 : Cond.methodLink cn_L 154 yy_L_hydrantAt ∈ gw := gw_3 (List.mem_of_getElem? (i := 147) (by decide +kernel)) rfl
theorem gt_L_hydrantAt : Cond.static yy_L_hydrantAt ∈ gw := gw_3 (List.mem_of_getElem? (i := 148) (by decide +kernel)) rfl
theorem gm_L_77 : Cond.methodLink cn_L 77 yy_C_hydrantAt ∈ gw := gw_3 (List.mem_of_getElem? (i := 150) (by decide +kernel)) rfl
theorem gi_C_hydrantAt : Cond.instanceMethod yy_C_hydrantAt ∈ gw := gw_3 (List.mem_of_getElem? (i := 151) (by decide +kernel)) rfl
theorem gs_C_hydrantAt : Cond.selects cn_C yy_C_hydrantAt yy_C_hydrantAt ∈ gw := gw_3 (List.mem_of_getElem? (i := 152) (by decide +kernel)) rfl
theorem gc_C_hydrantAt : Cond.code yy_C_hydrantAt bb_C_hydrantAt 4 (some .int) ∈ gw := gw_3 (List.mem_of_getElem? (i := 153) (by decide +kernel)) rfl
theorem gm_C_248 : Cond.methodLink cn_C 248 yy_H_countingNumber ∈ gw := gw_3 (List.mem_of_getElem? (i := 154) (by decide +kernel)) rfl
theorem gi_H_countingNumber : Cond.instanceMethod yy_H_countingNumber ∈ gw := gw_3 (List.mem_of_getElem? (i := 155) (by decide +kernel)) rfl
theorem gs_H_countingNumber : Cond.selects cn_H yy_H_countingNumber yy_H_countingNumber ∈ gw := gw_3 (List.mem_of_getElem? (i := 156) (by decide +kernel)) rfl
theorem gc_H_countingNumber : Cond.code yy_H_countingNumber bb_H_countingNumber 1 (some .int) ∈ gw := gw_3 (List.mem_of_getElem? (i := 157) (by decide +kernel)) rfl
theorem gk_L_81 : Cond.classLink cn_L 81 cn_M ∈ gw := gw_3 (List.mem_of_getElem? (i := 158) (by decide +kernel)) rfl
theorem gx_M : Cond.instantiable cn_M 23 ∈ gw := gw_3 (List.mem_of_getElem? (i := 159) (by decide +kernel)) rfl
theorem gm_L_83 : Cond.methodLink cn_L 83 yy_M_init ∈ gw := gw_3 (List.mem_of_getElem? (i := 160) (by decide +kernel)) rfl
theorem gi_M_init : Cond.instanceMethod yy_M_init ∈ gw := gw_3 (List.mem_of_getElem? (i := 161) (by decide +kernel)) rfl
theorem gc_M_init : Cond.code yy_M_init bb_M_init 2 none ∈ gw := gw_3 (List.mem_of_getElem? (i := 162) (by decide +kernel)) rfl
theorem gm_M_1 : Cond.methodLink cn_M 1 objectInit ∈ gw := gw_3 (List.mem_of_getElem? (i := 163) (by decide +kernel)) rfl
theorem gf_M_65 : Cond.fieldLink cn_M 65 cn_M "thrown" "I" ∈ gw := gw_3 (List.mem_of_getElem? (i := 164) (by decide +kernel)) rfl
theorem gf_M_69 : Cond.fieldLink cn_M 69 cn_M "hydrants" "I" ∈ gw := gw_3 (List.mem_of_getElem? (i := 165) (by decide +kernel)) rfl
theorem gf_M_7 : Cond.fieldLink cn_M 7 cn_M "x" "[I" ∈ gw := gw_3 (List.mem_of_getElem? (i := 166) (by decide +kernel)) rfl
theorem gf_M_13 : Cond.fieldLink cn_M 13 cn_M "y" "[I" ∈ gw := gw_3 (List.mem_of_getElem? (i := 167) (by decide +kernel)) rfl
theorem gf_M_16 : Cond.fieldLink cn_M 16 cn_M "main" "[I" ∈ gw := gw_3 (List.mem_of_getElem? (i := 168) (by decide +kernel)) rfl
theorem gf_M_19 : Cond.fieldLink cn_M 19 cn_M "kind" "[I" ∈ gw := gw_3 (List.mem_of_getElem? (i := 169) (by decide +kernel)) rfl
theorem gf_M_22 : Cond.fieldLink cn_M 22 cn_M "grade" "[I" ∈ gw := gw_3 (List.mem_of_getElem? (i := 170) (by decide +kernel)) rfl
theorem gf_M_25 : Cond.fieldLink cn_M 25 cn_M "many" "[I" ∈ gw := gw_3 (List.mem_of_getElem? (i := 171) (by decide +kernel)) rfl
theorem gf_M_28 : Cond.fieldLink cn_M 28 cn_M "from" "[I" ∈ gw := gw_3 (List.mem_of_getElem? (i := 172) (by decide +kernel)) rfl
theorem gf_M_31 : Cond.fieldLink cn_M 31 cn_M "to" "[I" ∈ gw := gw_3 (List.mem_of_getElem? (i := 173) (by decide +kernel)) rfl
theorem gf_M_34 : Cond.fieldLink cn_M 34 cn_M "dry" "[Z" ∈ gw := gw_3 (List.mem_of_getElem? (i := 174) (by decide +kernel)) rfl
theorem gf_M_38 : Cond.fieldLink cn_M 38 cn_M "limit" "[I" ∈ gw := gw_3 (List.mem_of_getElem? (i := 175) (by decide +kernel)) rfl
theorem gf_M_91 : Cond.fieldLink cn_M 91 cn_M "allowed" "Z" ∈ gw := gw_3 (List.mem_of_getElem? (i := 176) (by decide +kernel)) rfl
theorem gf_M_104 : Cond.fieldLink cn_M 104 cn_M "tests" "I" ∈ gw := gw_3 (List.mem_of_getElem? (i := 177) (by decide +kernel)) rfl
theorem gf_M_41 : Cond.fieldLink cn_M 41 cn_M "of" "[I" ∈ gw := gw_3 (List.mem_of_getElem? (i := 178) (by decide +kernel)) rfl
theorem gf_M_44 : Cond.fieldLink cn_M 44 cn_M "day" "[I" ∈ gw := gw_3 (List.mem_of_getElem? (i := 179) (by decide +kernel)) rfl
theorem gf_M_47 : Cond.fieldLink cn_M 47 cn_M "rest" "[I" ∈ gw := gw_3 (List.mem_of_getElem? (i := 180) (by decide +kernel)) rfl
theorem gf_M_50 : Cond.fieldLink cn_M 50 cn_M "flow" "[I" ∈ gw := gw_3 (List.mem_of_getElem? (i := 181) (by decide +kernel)) rfl
theorem gf_M_53 : Cond.fieldLink cn_M 53 cn_M "left" "[I" ∈ gw := gw_3 (List.mem_of_getElem? (i := 182) (by decide +kernel)) rfl
theorem gf_M_135 : Cond.fieldLink cn_M 135 cn_M "stops" "I" ∈ gw := gw_3 (List.mem_of_getElem? (i := 183) (by decide +kernel)) rfl
theorem gf_M_56 : Cond.fieldLink cn_M 56 cn_M "told" "[I" ∈ gw := gw_3 (List.mem_of_getElem? (i := 184) (by decide +kernel)) rfl
theorem gf_M_59 : Cond.fieldLink cn_M 59 cn_M "tried" "[I" ∈ gw := gw_3 (List.mem_of_getElem? (i := 185) (by decide +kernel)) rfl
theorem gf_M_62 : Cond.fieldLink cn_M 62 cn_M "best" "[I" ∈ gw := gw_3 (List.mem_of_getElem? (i := 186) (by decide +kernel)) rfl
theorem gar_boolean : Cond.arrayClass .boolean ∈ gw := gw_3 (List.mem_of_getElem? (i := 234) (by decide +kernel)) rfl
theorem gm_L_90 : Cond.methodLink cn_L 90 yy_M_thrown ∈ gw := gw_3 (List.mem_of_getElem? (i := 235) (by decide +kernel)) rfl
theorem gi_M_thrown : Cond.instanceMethod yy_M_thrown ∈ gw := gw_3 (List.mem_of_getElem? (i := 236) (by decide +kernel)) rfl
theorem gs_M_thrown : Cond.selects cn_M yy_M_thrown yy_M_thrown ∈ gw := gw_3 (List.mem_of_getElem? (i := 237) (by decide +kernel)) rfl
theorem gc_M_thrown : Cond.code yy_M_thrown bb_M_thrown 1 (some .int) ∈ gw := gw_3 (List.mem_of_getElem? (i := 238) (by decide +kernel)) rfl
theorem gm_L_89 : Cond.methodLink cn_L 89 yy_M_hydrant ∈ gw := gw_3 (List.mem_of_getElem? (i := 239) (by decide +kernel)) rfl
theorem gi_M_hydrant : Cond.instanceMethod yy_M_hydrant ∈ gw := gw_4 (List.mem_of_getElem? (i := 0) (by decide +kernel)) rfl
theorem gs_M_hydrant : Cond.selects cn_M yy_M_hydrant yy_M_hydrant ∈ gw := gw_4 (List.mem_of_getElem? (i := 1) (by decide +kernel)) rfl
theorem gc_M_hydrant : Cond.code yy_M_hydrant bb_M_hydrant 5 (some .int) ∈ gw := gw_4 (List.mem_of_getElem? (i := 2) (by decide +kernel)) rfl
theorem gm_M_72 : Cond.methodLink cn_M 72 yy_M_in ∈ gw := gw_4 (List.mem_of_getElem? (i := 3) (by decide +kernel)) rfl
theorem gt_M_in : Cond.static yy_M_in ∈ gw := gw_4 (List.mem_of_getElem? (i := 4) (by decide +kernel)) rfl
theorem gc_M_in : Cond.code yy_M_in bb_M_in 3 (some .boolean) ∈ gw := gw_4 (List.mem_of_getElem? (i := 5) (by decide +kernel)) rfl
theorem gm_M_79 : Cond.methodLink cn_M 79 yy_M_isPlace ∈ gw := gw_4 (List.mem_of_getElem? (i := 6) (by decide +kernel)) rfl
theorem gt_M_isPlace : Cond.static yy_M_isPlace ∈ gw := gw_4 (List.mem_of_getElem? (i := 7) (by decide +kernel)) rfl
theorem gc_M_isPlace : Cond.code yy_M_isPlace bb_M_isPlace 2 (some .boolean) ∈ gw := gw_4 (List.mem_of_getElem? (i := 8) (by decide +kernel)) rfl
theorem gq_M_76 : Cond.constant cn_M 76 (-50000) ∈ gw := gw_4 (List.mem_of_getElem? (i := 9) (by decide +kernel)) rfl
theorem gq_M_77 : Cond.constant cn_M 77 (50000) ∈ gw := gw_4 (List.mem_of_getElem? (i := 10) (by decide +kernel)) rfl
theorem gm_M_83 : Cond.methodLink cn_M 83 yy_M_goes ∈ gw := gw_4 (List.mem_of_getElem? (i := 11) (by decide +kernel)) rfl
theorem gi_M_goes : Cond.instanceMethod yy_M_goes ∈ gw := gw_4 (List.mem_of_getElem? (i := 13) (by decide +kernel)) rfl
theorem gc_M_goes : Cond.code yy_M_goes bb_M_goes 5 (some .boolean) ∈ gw := gw_4 (List.mem_of_getElem? (i := 14) (by decide +kernel)) rfl
theorem gm_L_97 : Cond.methodLink cn_L 97 yy_M_limit ∈ gw := gw_4 (List.mem_of_getElem? (i := 15) (by decide +kernel)) rfl
theorem gi_M_limit : Cond.instanceMethod yy_M_limit ∈ gw := gw_4 (List.mem_of_getElem? (i := 16) (by decide +kernel)) rfl
theorem gs_M_limit : Cond.selects cn_M yy_M_limit yy_M_limit ∈ gw := gw_4 (List.mem_of_getElem? (i := 17) (by decide +kernel)) rfl
theorem gc_M_limit : Cond.code yy_M_limit bb_M_limit 3 none ∈ gw := gw_4 (List.mem_of_getElem? (i := 18) (by decide +kernel)) rfl
theorem gm_M_87 : Cond.methodLink cn_M 87 yy_M_isFlow ∈ gw := gw_4 (List.mem_of_getElem? (i := 19) (by decide +kernel)) rfl
theorem gt_M_isFlow : Cond.static yy_M_isFlow ∈ gw := gw_4 (List.mem_of_getElem? (i := 20) (by decide +kernel)) rfl
theorem gc_M_isFlow : Cond.code yy_M_isFlow bb_M_isFlow 1 (some .boolean) ∈ gw := gw_4 (List.mem_of_getElem? (i := 21) (by decide +kernel)) rfl
theorem gm_L_102 : Cond.methodLink cn_L 102 yy_M_allow ∈ gw := gw_4 (List.mem_of_getElem? (i := 22) (by decide +kernel)) rfl
theorem gi_M_allow : Cond.instanceMethod yy_M_allow ∈ gw := gw_4 (List.mem_of_getElem? (i := 23) (by decide +kernel)) rfl
theorem gs_M_allow : Cond.selects cn_M yy_M_allow yy_M_allow ∈ gw := gw_4 (List.mem_of_getElem? (i := 24) (by decide +kernel)) rfl
theorem gc_M_allow : Cond.code yy_M_allow bb_M_allow 2 none ∈ gw := gw_4 (List.mem_of_getElem? (i := 25) (by decide +kernel)) rfl
theorem gm_L_106 : Cond.methodLink cn_L 106 yy_M_test ∈ gw := gw_4 (List.mem_of_getElem? (i := 26) (by decide +kernel)) rfl
theorem gi_M_test : Cond.instanceMethod yy_M_test ∈ gw := gw_4 (List.mem_of_getElem? (i := 27) (by decide +kernel)) rfl
theorem gs_M_test : Cond.selects cn_M yy_M_test yy_M_test ∈ gw := gw_4 (List.mem_of_getElem? (i := 28) (by decide +kernel)) rfl
theorem gc_M_test : Cond.code yy_M_test bb_M_test 6 (some .int) ∈ gw := gw_4 (List.mem_of_getElem? (i := 29) (by decide +kernel)) rfl
theorem gm_M_95 : Cond.methodLink cn_M 95 yy_M_isHydrant ∈ gw := gw_4 (List.mem_of_getElem? (i := 30) (by decide +kernel)) rfl
theorem gi_M_isHydrant : Cond.instanceMethod yy_M_isHydrant ∈ gw := gw_4 (List.mem_of_getElem? (i := 32) (by decide +kernel)) rfl
theorem gc_M_isHydrant : Cond.code yy_M_isHydrant bb_M_isHydrant 2 (some .boolean) ∈ gw := gw_4 (List.mem_of_getElem? (i := 33) (by decide +kernel)) rfl
theorem gm_M_98 : Cond.methodLink cn_M 98 yy_M_isDay ∈ gw := gw_4 (List.mem_of_getElem? (i := 34) (by decide +kernel)) rfl
theorem gt_M_isDay : Cond.static yy_M_isDay ∈ gw := gw_4 (List.mem_of_getElem? (i := 35) (by decide +kernel)) rfl
theorem gc_M_isDay : Cond.code yy_M_isDay bb_M_isDay 1 (some .boolean) ∈ gw := gw_4 (List.mem_of_getElem? (i := 36) (by decide +kernel)) rfl
theorem gq_M_78 : Cond.constant cn_M 78 (99999) ∈ gw := gw_4 (List.mem_of_getElem? (i := 37) (by decide +kernel)) rfl
theorem gm_M_101 : Cond.methodLink cn_M 101 yy_M_isPressure ∈ gw := gw_4 (List.mem_of_getElem? (i := 38) (by decide +kernel)) rfl
theorem gt_M_isPressure : Cond.static yy_M_isPressure ∈ gw := gw_4 (List.mem_of_getElem? (i := 39) (by decide +kernel)) rfl
theorem gc_M_isPressure : Cond.code yy_M_isPressure bb_M_isPressure 1 (some .boolean) ∈ gw := gw_4 (List.mem_of_getElem? (i := 40) (by decide +kernel)) rfl
theorem gm_L_110 : Cond.methodLink cn_L 110 yy_M_flow ∈ gw := gw_4 (List.mem_of_getElem? (i := 41) (by decide +kernel)) rfl
theorem gi_M_flow : Cond.instanceMethod yy_M_flow ∈ gw := gw_4 (List.mem_of_getElem? (i := 42) (by decide +kernel)) rfl
theorem gs_M_flow : Cond.selects cn_M yy_M_flow yy_M_flow ∈ gw := gw_4 (List.mem_of_getElem? (i := 43) (by decide +kernel)) rfl
theorem gc_M_flow : Cond.code yy_M_flow bb_M_flow 8 (some .int) ∈ gw := gw_4 (List.mem_of_getElem? (i := 44) (by decide +kernel)) rfl
theorem gm_M_107 : Cond.methodLink cn_M 107 yy_M_counts ∈ gw := gw_4 (List.mem_of_getElem? (i := 45) (by decide +kernel)) rfl
theorem gi_M_counts : Cond.instanceMethod yy_M_counts ∈ gw := gw_4 (List.mem_of_getElem? (i := 47) (by decide +kernel)) rfl
theorem gc_M_counts : Cond.code yy_M_counts bb_M_counts 4 (some .int) ∈ gw := gw_4 (List.mem_of_getElem? (i := 48) (by decide +kernel)) rfl
theorem gm_M_111 : Cond.methodLink cn_M 111 yy_M_canTell ∈ gw := gw_4 (List.mem_of_getElem? (i := 49) (by decide +kernel)) rfl
theorem gi_M_canTell : Cond.instanceMethod yy_M_canTell ∈ gw := gw_4 (List.mem_of_getElem? (i := 51) (by decide +kernel)) rfl
theorem gc_M_canTell : Cond.code yy_M_canTell bb_M_canTell 3 (some .boolean) ∈ gw := gw_4 (List.mem_of_getElem? (i := 52) (by decide +kernel)) rfl
theorem gm_M_114 : Cond.methodLink cn_M 114 yy_M_down ∈ gw := gw_4 (List.mem_of_getElem? (i := 53) (by decide +kernel)) rfl
theorem gi_M_down : Cond.instanceMethod yy_M_down ∈ gw := gw_4 (List.mem_of_getElem? (i := 55) (by decide +kernel)) rfl
theorem gc_M_down : Cond.code yy_M_down bb_M_down 3 (some .int) ∈ gw := gw_4 (List.mem_of_getElem? (i := 56) (by decide +kernel)) rfl
theorem gm_M_118 : Cond.methodLink cn_M 118 yy_M_up ∈ gw := gw_4 (List.mem_of_getElem? (i := 57) (by decide +kernel)) rfl
theorem gi_M_up : Cond.instanceMethod yy_M_up ∈ gw := gw_4 (List.mem_of_getElem? (i := 59) (by decide +kernel)) rfl
theorem gc_M_up : Cond.code yy_M_up bb_M_up 3 (some .int) ∈ gw := gw_4 (List.mem_of_getElem? (i := 60) (by decide +kernel)) rfl
theorem gm_L_114 : Cond.methodLink cn_L 114 yy_M_sort ∈ gw := gw_4 (List.mem_of_getElem? (i := 61) (by decide +kernel)) rfl
theorem gi_M_sort : Cond.instanceMethod yy_M_sort ∈ gw := gw_4 (List.mem_of_getElem? (i := 62) (by decide +kernel)) rfl
theorem gs_M_sort : Cond.selects cn_M yy_M_sort yy_M_sort ∈ gw := gw_4 (List.mem_of_getElem? (i := 63) (by decide +kernel)) rfl
theorem gc_M_sort : Cond.code yy_M_sort bb_M_sort 4 (some .int) ∈ gw := gw_4 (List.mem_of_getElem? (i := 64) (by decide +kernel)) rfl
theorem gm_L_117 : Cond.methodLink cn_L 117 yy_M_defect ∈ gw := gw_4 (List.mem_of_getElem? (i := 65) (by decide +kernel)) rfl
theorem gi_M_defect : Cond.instanceMethod yy_M_defect ∈ gw := gw_4 (List.mem_of_getElem? (i := 66) (by decide +kernel)) rfl
theorem gs_M_defect : Cond.selects cn_M yy_M_defect yy_M_defect ∈ gw := gw_4 (List.mem_of_getElem? (i := 67) (by decide +kernel)) rfl
theorem gc_M_defect : Cond.code yy_M_defect bb_M_defect 3 none ∈ gw := gw_4 (List.mem_of_getElem? (i := 68) (by decide +kernel)) rfl
theorem gm_L_121 : Cond.methodLink cn_L 121 yy_M_works ∈ gw := gw_4 (List.mem_of_getElem? (i := 69) (by decide +kernel)) rfl
theorem gi_M_works : Cond.instanceMethod yy_M_works ∈ gw := gw_4 (List.mem_of_getElem? (i := 70) (by decide +kernel)) rfl
theorem gs_M_works : Cond.selects cn_M yy_M_works yy_M_works ∈ gw := gw_4 (List.mem_of_getElem? (i := 71) (by decide +kernel)) rfl
theorem gc_M_works : Cond.code yy_M_works bb_M_works 7 none ∈ gw := gw_4 (List.mem_of_getElem? (i := 72) (by decide +kernel)) rfl
theorem gm_L_125 : Cond.methodLink cn_L 125 yy_M_season ∈ gw := gw_4 (List.mem_of_getElem? (i := 73) (by decide +kernel)) rfl
theorem gi_M_season : Cond.instanceMethod yy_M_season ∈ gw := gw_4 (List.mem_of_getElem? (i := 74) (by decide +kernel)) rfl
theorem gs_M_season : Cond.selects cn_M yy_M_season yy_M_season ∈ gw := gw_4 (List.mem_of_getElem? (i := 75) (by decide +kernel)) rfl
theorem gc_M_season : Cond.code yy_M_season bb_M_season 4 none ∈ gw := gw_4 (List.mem_of_getElem? (i := 76) (by decide +kernel)) rfl
theorem gm_L_129 : Cond.methodLink cn_L 129 yy_M_usable ∈ gw := gw_4 (List.mem_of_getElem? (i := 77) (by decide +kernel)) rfl
theorem gi_M_usable : Cond.instanceMethod yy_M_usable ∈ gw := gw_4 (List.mem_of_getElem? (i := 78) (by decide +kernel)) rfl
theorem gs_M_usable : Cond.selects cn_M yy_M_usable yy_M_usable ∈ gw := gw_4 (List.mem_of_getElem? (i := 79) (by decide +kernel)) rfl
theorem gc_M_usable : Cond.code yy_M_usable bb_M_usable 3 (some .boolean) ∈ gw := gw_4 (List.mem_of_getElem? (i := 80) (by decide +kernel)) rfl
theorem gm_M_121 : Cond.methodLink cn_M 121 yy_M_isUsable ∈ gw := gw_4 (List.mem_of_getElem? (i := 81) (by decide +kernel)) rfl
theorem gi_M_isUsable : Cond.instanceMethod yy_M_isUsable ∈ gw := gw_4 (List.mem_of_getElem? (i := 83) (by decide +kernel)) rfl
theorem gc_M_isUsable : Cond.code yy_M_isUsable bb_M_isUsable 4 (some .boolean) ∈ gw := gw_4 (List.mem_of_getElem? (i := 84) (by decide +kernel)) rfl
theorem gm_L_132 : Cond.methodLink cn_L 132 yy_M_near ∈ gw := gw_4 (List.mem_of_getElem? (i := 85) (by decide +kernel)) rfl
theorem gi_M_near : Cond.instanceMethod yy_M_near ∈ gw := gw_4 (List.mem_of_getElem? (i := 86) (by decide +kernel)) rfl
theorem gs_M_near : Cond.selects cn_M yy_M_near yy_M_near ∈ gw := gw_4 (List.mem_of_getElem? (i := 87) (by decide +kernel)) rfl
theorem gc_M_near : Cond.code yy_M_near bb_M_near 10 (some .int) ∈ gw := gw_4 (List.mem_of_getElem? (i := 88) (by decide +kernel)) rfl
theorem gm_M_127 : Cond.methodLink cn_M 127 yy_M_hose ∈ gw := gw_4 (List.mem_of_getElem? (i := 89) (by decide +kernel)) rfl
theorem gi_M_hose : Cond.instanceMethod yy_M_hose ∈ gw := gw_4 (List.mem_of_getElem? (i := 91) (by decide +kernel)) rfl
theorem gc_M_hose : Cond.code yy_M_hose bb_M_hose 4 (some .int) ∈ gw := gw_4 (List.mem_of_getElem? (i := 92) (by decide +kernel)) rfl
theorem gm_M_124 : Cond.methodLink cn_M 124 yy_M_size ∈ gw := gw_4 (List.mem_of_getElem? (i := 93) (by decide +kernel)) rfl
theorem gt_M_size : Cond.static yy_M_size ∈ gw := gw_4 (List.mem_of_getElem? (i := 94) (by decide +kernel)) rfl
theorem gc_M_size : Cond.code yy_M_size bb_M_size 1 (some .int) ∈ gw := gw_4 (List.mem_of_getElem? (i := 95) (by decide +kernel)) rfl
theorem gm_L_135 : Cond.methodLink cn_L 135 yy_M_both ∈ gw := gw_4 (List.mem_of_getElem? (i := 96) (by decide +kernel)) rfl
theorem gi_M_both : Cond.instanceMethod yy_M_both ∈ gw := gw_4 (List.mem_of_getElem? (i := 97) (by decide +kernel)) rfl
theorem gs_M_both : Cond.selects cn_M yy_M_both yy_M_both ∈ gw := gw_4 (List.mem_of_getElem? (i := 98) (by decide +kernel)) rfl
theorem gc_M_both : Cond.code yy_M_both bb_M_both 8 (some .int) ∈ gw := gw_4 (List.mem_of_getElem? (i := 99) (by decide +kernel)) rfl
theorem gm_M_131 : Cond.methodLink cn_M 131 yy_M_whole ∈ gw := gw_4 (List.mem_of_getElem? (i := 100) (by decide +kernel)) rfl
theorem gi_M_whole : Cond.instanceMethod yy_M_whole ∈ gw := gw_4 (List.mem_of_getElem? (i := 102) (by decide +kernel)) rfl
theorem gc_M_whole : Cond.code yy_M_whole bb_M_whole 3 (some .int) ∈ gw := gw_4 (List.mem_of_getElem? (i := 103) (by decide +kernel)) rfl
theorem gm_L_138 : Cond.methodLink cn_L 138 yy_M_supply ∈ gw := gw_4 (List.mem_of_getElem? (i := 104) (by decide +kernel)) rfl
theorem gi_M_supply : Cond.instanceMethod yy_M_supply ∈ gw := gw_4 (List.mem_of_getElem? (i := 105) (by decide +kernel)) rfl
theorem gs_M_supply : Cond.selects cn_M yy_M_supply yy_M_supply ∈ gw := gw_4 (List.mem_of_getElem? (i := 106) (by decide +kernel)) rfl
theorem gc_M_supply : Cond.code yy_M_supply bb_M_supply 10 (some .int) ∈ gw := gw_4 (List.mem_of_getElem? (i := 107) (by decide +kernel)) rfl
theorem gq_M_134 : Cond.constant cn_M 134 (200000) ∈ gw := gw_4 (List.mem_of_getElem? (i := 108) (by decide +kernel)) rfl
theorem gm_L_144 : Cond.methodLink cn_L 144 yy_M_round ∈ gw := gw_4 (List.mem_of_getElem? (i := 109) (by decide +kernel)) rfl
theorem gi_M_round : Cond.instanceMethod yy_M_round ∈ gw := gw_4 (List.mem_of_getElem? (i := 110) (by decide +kernel)) rfl
theorem gs_M_round : Cond.selects cn_M yy_M_round yy_M_round ∈ gw := gw_4 (List.mem_of_getElem? (i := 111) (by decide +kernel)) rfl
theorem gc_M_round : Cond.code yy_M_round bb_M_round 11 (some .int) ∈ gw := gw_4 (List.mem_of_getElem? (i := 112) (by decide +kernel)) rfl
theorem gm_M_138 : Cond.methodLink cn_M 138 yy_M_arranges ∈ gw := gw_4 (List.mem_of_getElem? (i := 113) (by decide +kernel)) rfl
theorem gi_M_arranges : Cond.instanceMethod yy_M_arranges ∈ gw := gw_4 (List.mem_of_getElem? (i := 115) (by decide +kernel)) rfl
theorem gc_M_arranges : Cond.code yy_M_arranges bb_M_arranges 7 (some .boolean) ∈ gw := gw_4 (List.mem_of_getElem? (i := 116) (by decide +kernel)) rfl
theorem gm_M_141 : Cond.methodLink cn_M 141 yy_M_metres ∈ gw := gw_4 (List.mem_of_getElem? (i := 117) (by decide +kernel)) rfl
theorem gi_M_metres : Cond.instanceMethod yy_M_metres ∈ gw := gw_4 (List.mem_of_getElem? (i := 119) (by decide +kernel)) rfl
theorem gc_M_metres : Cond.code yy_M_metres bb_M_metres 6 (some .int) ∈ gw := gw_4 (List.mem_of_getElem? (i := 120) (by decide +kernel)) rfl
theorem gm_M_144 : Cond.methodLink cn_M 144 yy_M_isAhead ∈ gw := gw_4 (List.mem_of_getElem? (i := 121) (by decide +kernel)) rfl
theorem gi_M_isAhead : Cond.instanceMethod yy_M_isAhead ∈ gw := gw_4 (List.mem_of_getElem? (i := 123) (by decide +kernel)) rfl
theorem gc_M_isAhead : Cond.code yy_M_isAhead bb_M_isAhead 3 (some .boolean) ∈ gw := gw_4 (List.mem_of_getElem? (i := 124) (by decide +kernel)) rfl
theorem gm_L_147 : Cond.methodLink cn_L 147 yy_M_stop ∈ gw := gw_4 (List.mem_of_getElem? (i := 125) (by decide +kernel)) rfl
theorem gi_M_stop : Cond.instanceMethod yy_M_stop ∈ gw := gw_4 (List.mem_of_getElem? (i := 126) (by decide +kernel)) rfl
theorem gs_M_stop : Cond.selects cn_M yy_M_stop yy_M_stop ∈ gw := gw_4 (List.mem_of_getElem? (i := 127) (by decide +kernel)) rfl
theorem gc_M_stop : Cond.code yy_M_stop bb_M_stop 2 (some .int) ∈ gw := gw_4 (List.mem_of_getElem? (i := 128) (by decide +kernel)) rfl
theorem gm_L_150 : Cond.methodLink cn_L 150 yy_M_overdue ∈ gw := gw_4 (List.mem_of_getElem? (i := 129) (by decide +kernel)) rfl
theorem gi_M_overdue : Cond.instanceMethod yy_M_overdue ∈ gw := gw_4 (List.mem_of_getElem? (i := 130) (by decide +kernel)) rfl
theorem gs_M_overdue : Cond.selects cn_M yy_M_overdue yy_M_overdue ∈ gw := gw_4 (List.mem_of_getElem? (i := 131) (by decide +kernel)) rfl
theorem gc_M_overdue : Cond.code yy_M_overdue bb_M_overdue 10 (some .int) ∈ gw := gw_4 (List.mem_of_getElem? (i := 132) (by decide +kernel)) rfl
theorem gm_M_147 : Cond.methodLink cn_M 147 yy_M_late ∈ gw := gw_4 (List.mem_of_getElem? (i := 133) (by decide +kernel)) rfl
theorem gi_M_late : Cond.instanceMethod yy_M_late ∈ gw := gw_4 (List.mem_of_getElem? (i := 135) (by decide +kernel)) rfl
theorem gc_M_late : Cond.code yy_M_late bb_M_late 5 (some .int) ∈ gw := gw_4 (List.mem_of_getElem? (i := 136) (by decide +kernel)) rfl
theorem gm_L_153 : Cond.methodLink cn_L 153 yy_M_testAt ∈ gw := gw_4 (List.mem_of_getElem? (i := 137) (by decide +kernel)) rfl
theorem gi_M_testAt : Cond.instanceMethod yy_M_testAt ∈ gw := gw_4 (List.mem_of_getElem? (i := 138) (by decide +kernel)) rfl
theorem gs_M_testAt : Cond.selects cn_M yy_M_testAt yy_M_testAt ∈ gw := gw_4 (List.mem_of_getElem? (i := 139) (by decide +kernel)) rfl
theorem gc_M_testAt : Cond.code yy_M_testAt bb_M_testAt 3 (some .int) ∈ gw := gw_4 (List.mem_of_getElem? (i := 140) (by decide +kernel)) rfl
theorem gm_L_156 : Cond.methodLink cn_L 156 yy_M_hydrantAt ∈ gw := gw_4 (List.mem_of_getElem? (i := 141) (by decide +kernel)) rfl
theorem gi_M_hydrantAt : Cond.instanceMethod yy_M_hydrantAt ∈ gw := gw_4 (List.mem_of_getElem? (i := 142) (by decide +kernel)) rfl
theorem gs_M_hydrantAt : Cond.selects cn_M yy_M_hydrantAt yy_M_hydrantAt ∈ gw := gw_4 (List.mem_of_getElem? (i := 143) (by decide +kernel)) rfl
theorem gc_M_hydrantAt : Cond.code yy_M_hydrantAt bb_M_hydrantAt 5 (some .int) ∈ gw := gw_4 (List.mem_of_getElem? (i := 144) (by decide +kernel)) rfl
theorem gq_L_139 : Cond.constantLong cn_L 139 (4294967295) ∈ gw := gw_4 (List.mem_of_getElem? (i := 145) (by decide +kernel)) rfl
theorem gar_long : Cond.arrayClass .long ∈ gw := gw_4 (List.mem_of_getElem? (i := 146) (by decide +kernel)) rfl
theorem gs_C_needMain : Cond.selects cn_C yy_C_needMain yy_C_needMain ∈ gw := gw_0 (by decide +kernel) rfl
theorem gs_C_known : Cond.selects cn_C yy_C_known yy_C_known ∈ gw := gw_0 (by decide +kernel) rfl
theorem gs_C_limitOf : Cond.selects cn_C yy_C_limitOf yy_C_limitOf ∈ gw := gw_0 (by decide +kernel) rfl
theorem gs_C_supplyOfMain : Cond.selects cn_C yy_C_supplyOfMain yy_C_supplyOfMain ∈ gw := gw_0 (by decide +kernel) rfl
theorem gs_A_goOn : Cond.selects cn_A yy_A_goOn yy_A_goOn ∈ gw := gw_0 (by decide +kernel) rfl
theorem gs_A_keepWay : Cond.selects cn_A yy_A_keepWay yy_A_keepWay ∈ gw := gw_0 (by decide +kernel) rfl
theorem gs_M_goes : Cond.selects cn_M yy_M_goes yy_M_goes ∈ gw := gw_0 (by decide +kernel) rfl
theorem gs_M_isHydrant : Cond.selects cn_M yy_M_isHydrant yy_M_isHydrant ∈ gw := gw_0 (by decide +kernel) rfl
theorem gs_M_counts : Cond.selects cn_M yy_M_counts yy_M_counts ∈ gw := gw_0 (by decide +kernel) rfl
theorem gs_M_canTell : Cond.selects cn_M yy_M_canTell yy_M_canTell ∈ gw := gw_0 (by decide +kernel) rfl
theorem gs_M_down : Cond.selects cn_M yy_M_down yy_M_down ∈ gw := gw_0 (by decide +kernel) rfl
theorem gs_M_up : Cond.selects cn_M yy_M_up yy_M_up ∈ gw := gw_0 (by decide +kernel) rfl
theorem gs_M_isUsable : Cond.selects cn_M yy_M_isUsable yy_M_isUsable ∈ gw := gw_0 (by decide +kernel) rfl
theorem gs_M_hose : Cond.selects cn_M yy_M_hose yy_M_hose ∈ gw := gw_0 (by decide +kernel) rfl
theorem gs_M_whole : Cond.selects cn_M yy_M_whole yy_M_whole ∈ gw := gw_0 (by decide +kernel) rfl
theorem gs_M_arranges : Cond.selects cn_M yy_M_arranges yy_M_arranges ∈ gw := gw_0 (by decide +kernel) rfl
theorem gs_M_metres : Cond.selects cn_M yy_M_metres yy_M_metres ∈ gw := gw_0 (by decide +kernel) rfl
theorem gs_M_isAhead : Cond.selects cn_M yy_M_isAhead yy_M_isAhead ∈ gw := gw_0 (by decide +kernel) rfl
theorem gs_M_late : Cond.selects cn_M yy_M_late yy_M_late ∈ gw := gw_0 (by decide +kernel) rfl
set_option maxRecDepth 100000 in
theorem gu_C : ∀ w ∈ u_ws cn_C cf_C 8, w ∈ gw := by decide +kernel
set_option maxRecDepth 100000 in
theorem gu_H : ∀ w ∈ u_ws cn_H cf_H 11, w ∈ gw := by decide +kernel
set_option maxRecDepth 100000 in
theorem gu_T : ∀ w ∈ u_ws cn_T cf_T 6, w ∈ gw := by decide +kernel
set_option maxRecDepth 100000 in
theorem gu_O : ∀ w ∈ u_ws cn_O cf_O 2, w ∈ gw := by decide +kernel
set_option maxRecDepth 100000 in
theorem gu_K : ∀ w ∈ u_ws cn_K cf_K 2, w ∈ gw := by decide +kernel
set_option maxRecDepth 100000 in
theorem gu_A : ∀ w ∈ u_ws cn_A cf_A 5, w ∈ gw := by decide +kernel
set_option maxRecDepth 100000 in
theorem gu_M : ∀ w ∈ u_ws cn_M cf_M 23, w ∈ gw := by decide +kernel
end
section
theorem dd_C_init_0 : decode bb_C_init 0 = .ok (.aload_n 0, 1) := by decide +kernel
theorem dd_C_init_1 : decode bb_C_init 1 = .ok (.invokespecial 1, 3) := by decide +kernel
theorem dd_C_init_4 : decode bb_C_init 4 = .ok (.aload_n 0, 1) := by decide +kernel
theorem dd_C_init_5 : decode bb_C_init 5 = .ok (.bipush 40, 2) := by decide +kernel
theorem dd_C_init_7 : decode bb_C_init 7 = .ok (.anewarray 9, 3) := by decide +kernel
theorem dd_C_init_10 : decode bb_C_init 10 = .ok (.putfield 11, 3) := by decide +kernel
theorem dd_C_init_13 : decode bb_C_init 13 = .ok (.aload_n 0, 1) := by decide +kernel
theorem dd_C_init_14 : decode bb_C_init 14 = .ok (.bipush 100, 2) := by decide +kernel
theorem dd_C_init_16 : decode bb_C_init 16 = .ok (.anewarray 15, 3) := by decide +kernel
theorem dd_C_init_19 : decode bb_C_init 19 = .ok (.putfield 17, 3) := by decide +kernel
theorem dd_C_init_22 : decode bb_C_init 22 = .ok (.aload_n 0, 1) := by decide +kernel
theorem dd_C_init_23 : decode bb_C_init 23 = .ok (.bipush 20, 2) := by decide +kernel
theorem dd_C_init_25 : decode bb_C_init 25 = .ok (.newarray .int, 2) := by decide +kernel
theorem dd_C_init_27 : decode bb_C_init 27 = .ok (.putfield 21, 3) := by decide +kernel
theorem dd_C_init_30 : decode bb_C_init 30 = .ok (.aload_n 0, 1) := by decide +kernel
theorem dd_C_init_31 : decode bb_C_init 31 = .ok (.new 25, 3) := by decide +kernel
theorem dd_C_init_34 : decode bb_C_init 34 = .ok (.dup, 1) := by decide +kernel
theorem dd_C_init_35 : decode bb_C_init 35 = .ok (.invokespecial 27, 3) := by decide +kernel
theorem dd_C_init_38 : decode bb_C_init 38 = .ok (.putfield 28, 3) := by decide +kernel
theorem dd_C_init_41 : decode bb_C_init 41 = .ok (.aload_n 0, 1) := by decide +kernel
theorem dd_C_init_42 : decode bb_C_init 42 = .ok (.new 32, 3) := by decide +kernel
theorem dd_C_init_45 : decode bb_C_init 45 = .ok (.dup, 1) := by decide +kernel
theorem dd_C_init_46 : decode bb_C_init 46 = .ok (.invokespecial 34, 3) := by decide +kernel
theorem dd_C_init_49 : decode bb_C_init 49 = .ok (.putfield 35, 3) := by decide +kernel
theorem dd_C_init_52 : decode bb_C_init 52 = .ok (.aload_n 0, 1) := by decide +kernel
theorem dd_C_init_53 : decode bb_C_init 53 = .ok (.iconst 0, 1) := by decide +kernel
theorem dd_C_init_54 : decode bb_C_init 54 = .ok (.putfield 39, 3) := by decide +kernel
theorem dd_C_init_57 : decode bb_C_init 57 = .ok (.aload_n 0, 1) := by decide +kernel
theorem dd_C_init_58 : decode bb_C_init 58 = .ok (.iconst 0, 1) := by decide +kernel
theorem dd_C_init_59 : decode bb_C_init 59 = .ok (.putfield 43, 3) := by decide +kernel
theorem dd_C_init_62 : decode bb_C_init 62 = .ok (.aload_n 0, 1) := by decide +kernel
theorem dd_C_init_63 : decode bb_C_init 63 = .ok (.iconst 0, 1) := by decide +kernel
theorem dd_C_init_64 : decode bb_C_init 64 = .ok (.putfield 46, 3) := by decide +kernel
theorem dd_C_init_67 : decode bb_C_init 67 = .ok (.iconst 0, 1) := by decide +kernel
theorem dd_C_init_68 : decode bb_C_init 68 = .ok (.istore_n 1, 1) := by decide +kernel
theorem dd_C_init_69 : decode bb_C_init 69 = .ok (.iload_n 1, 1) := by decide +kernel
theorem dd_C_init_70 : decode bb_C_init 70 = .ok (.aload_n 0, 1) := by decide +kernel
theorem dd_C_init_71 : decode bb_C_init 71 = .ok (.getfield 21, 3) := by decide +kernel
theorem dd_C_init_74 : decode bb_C_init 74 = .ok (.arraylength, 1) := by decide +kernel
theorem dd_C_init_75 : decode bb_C_init 75 = .ok (.if_icmp .ge 18, 3) := by decide +kernel
theorem dd_C_init_78 : decode bb_C_init 78 = .ok (.aload_n 0, 1) := by decide +kernel
theorem dd_C_init_79 : decode bb_C_init 79 = .ok (.getfield 21, 3) := by decide +kernel
theorem dd_C_init_82 : decode bb_C_init 82 = .ok (.iload_n 1, 1) := by decide +kernel
theorem dd_C_init_83 : decode bb_C_init 83 = .ok (.sipush 20000, 3) := by decide +kernel
theorem dd_C_init_86 : decode bb_C_init 86 = .ok (.iastore, 1) := by decide +kernel
theorem dd_C_init_87 : decode bb_C_init 87 = .ok (.iinc 1 1, 3) := by decide +kernel
theorem dd_C_init_90 : decode bb_C_init 90 = .ok (.goto (-21), 3) := by decide +kernel
theorem dd_C_init_93 : decode bb_C_init 93 = .ok (.return_, 1) := by decide +kernel
theorem dd_C_hydrant_0 : decode bb_C_hydrant 0 = .ok (.aload_n 0, 1) := by decide +kernel
theorem dd_C_hydrant_1 : decode bb_C_hydrant 1 = .ok (.iload_n 3, 1) := by decide +kernel
theorem dd_C_hydrant_2 : decode bb_C_hydrant 2 = .ok (.invokevirtual 50, 3) := by decide +kernel
theorem dd_C_hydrant_5 : decode bb_C_hydrant 5 = .ok (.iload 4, 2) := by decide +kernel
theorem dd_C_hydrant_7 : decode bb_C_hydrant 7 = .ok (.ifCond .lt 9, 3) := by decide +kernel
theorem dd_C_hydrant_10 : decode bb_C_hydrant 10 = .ok (.iload 4, 2) := by decide +kernel
theorem dd_C_hydrant_12 : decode bb_C_hydrant 12 = .ok (.iconst 3, 1) := by decide +kernel
theorem dd_C_hydrant_13 : decode bb_C_hydrant 13 = .ok (.if_icmp .lt 13, 3) := by decide +kernel
theorem dd_C_hydrant_16 : decode bb_C_hydrant 16 = .ok (.new 54, 3) := by decide +kernel
theorem dd_C_hydrant_19 : decode bb_C_hydrant 19 = .ok (.dup, 1) := by decide +kernel
theorem dd_C_hydrant_20 : decode bb_C_hydrant 20 = .ok (.ldc 56, 2) := by decide +kernel
theorem dd_C_hydrant_22 : decode bb_C_hydrant 22 = .ok (.invokespecial 58, 3) := by decide +kernel
theorem dd_C_hydrant_25 : decode bb_C_hydrant 25 = .ok (.athrow, 1) := by decide +kernel
theorem dd_C_hydrant_26 : decode bb_C_hydrant 26 = .ok (.iload_n 1, 1) := by decide +kernel
theorem dd_C_hydrant_27 : decode bb_C_hydrant 27 = .ok (.iload_n 2, 1) := by decide +kernel
theorem dd_C_hydrant_28 : decode bb_C_hydrant 28 = .ok (.invokestatic 61, 3) := by decide +kernel
theorem dd_C_hydrant_31 : decode bb_C_hydrant 31 = .ok (.aload_n 0, 1) := by decide +kernel
theorem dd_C_hydrant_32 : decode bb_C_hydrant 32 = .ok (.getfield 39, 3) := by decide +kernel
theorem dd_C_hydrant_35 : decode bb_C_hydrant 35 = .ok (.istore 5, 2) := by decide +kernel
theorem dd_C_hydrant_37 : decode bb_C_hydrant 37 = .ok (.iload 5, 2) := by decide +kernel
theorem dd_C_hydrant_39 : decode bb_C_hydrant 39 = .ok (.ifCond .lt 13, 3) := by decide +kernel
theorem dd_C_hydrant_42 : decode bb_C_hydrant 42 = .ok (.iload 5, 2) := by decide +kernel
theorem dd_C_hydrant_44 : decode bb_C_hydrant 44 = .ok (.aload_n 0, 1) := by decide +kernel
theorem dd_C_hydrant_45 : decode bb_C_hydrant 45 = .ok (.getfield 11, 3) := by decide +kernel
theorem dd_C_hydrant_48 : decode bb_C_hydrant 48 = .ok (.arraylength, 1) := by decide +kernel
theorem dd_C_hydrant_49 : decode bb_C_hydrant 49 = .ok (.if_icmp .lt 13, 3) := by decide +kernel
theorem dd_C_hydrant_52 : decode bb_C_hydrant 52 = .ok (.new 65, 3) := by decide +kernel
theorem dd_C_hydrant_55 : decode bb_C_hydrant 55 = .ok (.dup, 1) := by decide +kernel
theorem dd_C_hydrant_56 : decode bb_C_hydrant 56 = .ok (.ldc 67, 2) := by decide +kernel
theorem dd_C_hydrant_58 : decode bb_C_hydrant 58 = .ok (.invokespecial 69, 3) := by decide +kernel
theorem dd_C_hydrant_61 : decode bb_C_hydrant 61 = .ok (.athrow, 1) := by decide +kernel
theorem dd_C_hydrant_62 : decode bb_C_hydrant 62 = .ok (.aload_n 0, 1) := by decide +kernel
theorem dd_C_hydrant_63 : decode bb_C_hydrant 63 = .ok (.getfield 11, 3) := by decide +kernel
theorem dd_C_hydrant_66 : decode bb_C_hydrant 66 = .ok (.iload 5, 2) := by decide +kernel
theorem dd_C_hydrant_68 : decode bb_C_hydrant 68 = .ok (.new 9, 3) := by decide +kernel
theorem dd_C_hydrant_71 : decode bb_C_hydrant 71 = .ok (.dup, 1) := by decide +kernel
theorem dd_C_hydrant_72 : decode bb_C_hydrant 72 = .ok (.iload 5, 2) := by decide +kernel
theorem dd_C_hydrant_74 : decode bb_C_hydrant 74 = .ok (.iload_n 1, 1) := by decide +kernel
theorem dd_C_hydrant_75 : decode bb_C_hydrant 75 = .ok (.iload_n 2, 1) := by decide +kernel
theorem dd_C_hydrant_76 : decode bb_C_hydrant 76 = .ok (.iload_n 3, 1) := by decide +kernel
theorem dd_C_hydrant_77 : decode bb_C_hydrant 77 = .ok (.iload 4, 2) := by decide +kernel
theorem dd_C_hydrant_79 : decode bb_C_hydrant 79 = .ok (.invokespecial 70, 3) := by decide +kernel
theorem dd_C_hydrant_82 : decode bb_C_hydrant 82 = .ok (.aastore, 1) := by decide +kernel
theorem dd_C_hydrant_83 : decode bb_C_hydrant 83 = .ok (.aload_n 0, 1) := by decide +kernel
theorem dd_C_hydrant_84 : decode bb_C_hydrant 84 = .ok (.iload 5, 2) := by decide +kernel
theorem dd_C_hydrant_86 : decode bb_C_hydrant 86 = .ok (.iconst 1, 1) := by decide +kernel
theorem dd_C_hydrant_87 : decode bb_C_hydrant 87 = .ok (.iadd, 1) := by decide +kernel
theorem dd_C_hydrant_88 : decode bb_C_hydrant 88 = .ok (.putfield 39, 3) := by decide +kernel
theorem dd_C_hydrant_91 : decode bb_C_hydrant 91 = .ok (.iload 5, 2) := by decide +kernel
theorem dd_C_hydrant_93 : decode bb_C_hydrant 93 = .ok (.ireturn, 1) := by decide +kernel
theorem dd_C_limit_0 : decode bb_C_limit 0 = .ok (.aload_n 0, 1) := by decide +kernel
theorem dd_C_limit_1 : decode bb_C_limit 1 = .ok (.iload_n 1, 1) := by decide +kernel
theorem dd_C_limit_2 : decode bb_C_limit 2 = .ok (.invokevirtual 50, 3) := by decide +kernel
theorem dd_C_limit_5 : decode bb_C_limit 5 = .ok (.iload_n 2, 1) := by decide +kernel
theorem dd_C_limit_6 : decode bb_C_limit 6 = .ok (.invokestatic 73, 3) := by decide +kernel
theorem dd_C_limit_9 : decode bb_C_limit 9 = .ok (.aload_n 0, 1) := by decide +kernel
theorem dd_C_limit_10 : decode bb_C_limit 10 = .ok (.getfield 21, 3) := by decide +kernel
theorem dd_C_limit_13 : decode bb_C_limit 13 = .ok (.iload_n 1, 1) := by decide +kernel
theorem dd_C_limit_14 : decode bb_C_limit 14 = .ok (.iload_n 2, 1) := by decide +kernel
theorem dd_C_limit_15 : decode bb_C_limit 15 = .ok (.iastore, 1) := by decide +kernel
theorem dd_C_limit_16 : decode bb_C_limit 16 = .ok (.return_, 1) := by decide +kernel
theorem dd_C_allow_0 : decode bb_C_allow 0 = .ok (.aload_n 0, 1) := by decide +kernel
theorem dd_C_allow_1 : decode bb_C_allow 1 = .ok (.iload_n 1, 1) := by decide +kernel
theorem dd_C_allow_2 : decode bb_C_allow 2 = .ok (.putfield 46, 3) := by decide +kernel
theorem dd_C_allow_5 : decode bb_C_allow 5 = .ok (.return_, 1) := by decide +kernel
theorem dd_C_test_0 : decode bb_C_test 0 = .ok (.aload_n 0, 1) := by decide +kernel
theorem dd_C_test_1 : decode bb_C_test 1 = .ok (.iload_n 1, 1) := by decide +kernel
theorem dd_C_test_2 : decode bb_C_test 2 = .ok (.invokevirtual 76, 3) := by decide +kernel
theorem dd_C_test_5 : decode bb_C_test 5 = .ok (.astore 6, 2) := by decide +kernel
theorem dd_C_test_7 : decode bb_C_test 7 = .ok (.iload_n 2, 1) := by decide +kernel
theorem dd_C_test_8 : decode bb_C_test 8 = .ok (.invokestatic 80, 3) := by decide +kernel
theorem dd_C_test_11 : decode bb_C_test 11 = .ok (.iload_n 3, 1) := by decide +kernel
theorem dd_C_test_12 : decode bb_C_test 12 = .ok (.invokestatic 83, 3) := by decide +kernel
theorem dd_C_test_15 : decode bb_C_test 15 = .ok (.iload 5, 2) := by decide +kernel
theorem dd_C_test_17 : decode bb_C_test 17 = .ok (.invokestatic 83, 3) := by decide +kernel
theorem dd_C_test_20 : decode bb_C_test 20 = .ok (.iload 4, 2) := by decide +kernel
theorem dd_C_test_22 : decode bb_C_test 22 = .ok (.invokestatic 73, 3) := by decide +kernel
theorem dd_C_test_25 : decode bb_C_test 25 = .ok (.iload 5, 2) := by decide +kernel
theorem dd_C_test_27 : decode bb_C_test 27 = .ok (.iload_n 3, 1) := by decide +kernel
theorem dd_C_test_28 : decode bb_C_test 28 = .ok (.if_icmp .le 13, 3) := by decide +kernel
theorem dd_C_test_31 : decode bb_C_test 31 = .ok (.new 86, 3) := by decide +kernel
theorem dd_C_test_34 : decode bb_C_test 34 = .ok (.dup, 1) := by decide +kernel
theorem dd_C_test_35 : decode bb_C_test 35 = .ok (.ldc 88, 2) := by decide +kernel
theorem dd_C_test_37 : decode bb_C_test 37 = .ok (.invokespecial 90, 3) := by decide +kernel
theorem dd_C_test_40 : decode bb_C_test 40 = .ok (.athrow, 1) := by decide +kernel
theorem dd_C_test_41 : decode bb_C_test 41 = .ok (.aload_n 0, 1) := by decide +kernel
theorem dd_C_test_42 : decode bb_C_test 42 = .ok (.getfield 43, 3) := by decide +kernel
theorem dd_C_test_45 : decode bb_C_test 45 = .ok (.istore 7, 2) := by decide +kernel
theorem dd_C_test_47 : decode bb_C_test 47 = .ok (.iload 7, 2) := by decide +kernel
theorem dd_C_test_49 : decode bb_C_test 49 = .ok (.ifCond .lt 13, 3) := by decide +kernel
theorem dd_C_test_52 : decode bb_C_test 52 = .ok (.iload 7, 2) := by decide +kernel
theorem dd_C_test_54 : decode bb_C_test 54 = .ok (.aload_n 0, 1) := by decide +kernel
theorem dd_C_test_55 : decode bb_C_test 55 = .ok (.getfield 17, 3) := by decide +kernel
theorem dd_C_test_58 : decode bb_C_test 58 = .ok (.arraylength, 1) := by decide +kernel
theorem dd_C_test_59 : decode bb_C_test 59 = .ok (.if_icmp .lt 13, 3) := by decide +kernel
theorem dd_C_test_62 : decode bb_C_test 62 = .ok (.new 65, 3) := by decide +kernel
theorem dd_C_test_65 : decode bb_C_test 65 = .ok (.dup, 1) := by decide +kernel
theorem dd_C_test_66 : decode bb_C_test 66 = .ok (.ldc 91, 2) := by decide +kernel
theorem dd_C_test_68 : decode bb_C_test 68 = .ok (.invokespecial 69, 3) := by decide +kernel
theorem dd_C_test_71 : decode bb_C_test 71 = .ok (.athrow, 1) := by decide +kernel
theorem dd_C_test_72 : decode bb_C_test 72 = .ok (.new 15, 3) := by decide +kernel
theorem dd_C_test_75 : decode bb_C_test 75 = .ok (.dup, 1) := by decide +kernel
theorem dd_C_test_76 : decode bb_C_test 76 = .ok (.iload 7, 2) := by decide +kernel
theorem dd_C_test_78 : decode bb_C_test 78 = .ok (.iload_n 1, 1) := by decide +kernel
theorem dd_C_test_79 : decode bb_C_test 79 = .ok (.iload_n 2, 1) := by decide +kernel
theorem dd_C_test_80 : decode bb_C_test 80 = .ok (.iload_n 3, 1) := by decide +kernel
theorem dd_C_test_81 : decode bb_C_test 81 = .ok (.iload 4, 2) := by decide +kernel
theorem dd_C_test_83 : decode bb_C_test 83 = .ok (.iload 5, 2) := by decide +kernel
theorem dd_C_test_85 : decode bb_C_test 85 = .ok (.invokespecial 93, 3) := by decide +kernel
theorem dd_C_test_88 : decode bb_C_test 88 = .ok (.astore 8, 2) := by decide +kernel
theorem dd_C_test_90 : decode bb_C_test 90 = .ok (.aload_n 0, 1) := by decide +kernel
theorem dd_C_test_91 : decode bb_C_test 91 = .ok (.getfield 17, 3) := by decide +kernel
theorem dd_C_test_94 : decode bb_C_test 94 = .ok (.iload 7, 2) := by decide +kernel
theorem dd_C_test_96 : decode bb_C_test 96 = .ok (.aload 8, 2) := by decide +kernel
theorem dd_C_test_98 : decode bb_C_test 98 = .ok (.aastore, 1) := by decide +kernel
theorem dd_C_test_99 : decode bb_C_test 99 = .ok (.aload_n 0, 1) := by decide +kernel
theorem dd_C_test_100 : decode bb_C_test 100 = .ok (.iload 7, 2) := by decide +kernel
theorem dd_C_test_102 : decode bb_C_test 102 = .ok (.iconst 1, 1) := by decide +kernel
theorem dd_C_test_103 : decode bb_C_test 103 = .ok (.iadd, 1) := by decide +kernel
theorem dd_C_test_104 : decode bb_C_test 104 = .ok (.putfield 43, 3) := by decide +kernel
theorem dd_C_test_107 : decode bb_C_test 107 = .ok (.aload 6, 2) := by decide +kernel
theorem dd_C_test_109 : decode bb_C_test 109 = .ok (.aload 8, 2) := by decide +kernel
theorem dd_C_test_111 : decode bb_C_test 111 = .ok (.invokevirtual 96, 3) := by decide +kernel
theorem dd_C_test_114 : decode bb_C_test 114 = .ok (.iload 7, 2) := by decide +kernel
theorem dd_C_test_116 : decode bb_C_test 116 = .ok (.ireturn, 1) := by decide +kernel
theorem dd_C_flow_0 : decode bb_C_flow 0 = .ok (.aload_n 0, 1) := by decide +kernel
theorem dd_C_flow_1 : decode bb_C_flow 1 = .ok (.iload_n 1, 1) := by decide +kernel
theorem dd_C_flow_2 : decode bb_C_flow 2 = .ok (.invokevirtual 76, 3) := by decide +kernel
theorem dd_C_flow_5 : decode bb_C_flow 5 = .ok (.astore 4, 2) := by decide +kernel
theorem dd_C_flow_7 : decode bb_C_flow 7 = .ok (.iload_n 3, 1) := by decide +kernel
theorem dd_C_flow_8 : decode bb_C_flow 8 = .ok (.ifCond .lt 8, 3) := by decide +kernel
theorem dd_C_flow_11 : decode bb_C_flow 11 = .ok (.iload_n 3, 1) := by decide +kernel
theorem dd_C_flow_12 : decode bb_C_flow 12 = .ok (.iconst 1, 1) := by decide +kernel
theorem dd_C_flow_13 : decode bb_C_flow 13 = .ok (.if_icmp .le 13, 3) := by decide +kernel
theorem dd_C_flow_16 : decode bb_C_flow 16 = .ok (.new 54, 3) := by decide +kernel
theorem dd_C_flow_19 : decode bb_C_flow 19 = .ok (.dup, 1) := by decide +kernel
theorem dd_C_flow_20 : decode bb_C_flow 20 = .ok (.ldc 100, 2) := by decide +kernel
theorem dd_C_flow_22 : decode bb_C_flow 22 = .ok (.invokespecial 58, 3) := by decide +kernel
theorem dd_C_flow_25 : decode bb_C_flow 25 = .ok (.athrow, 1) := by decide +kernel
theorem dd_C_flow_26 : decode bb_C_flow 26 = .ok (.iload_n 2, 1) := by decide +kernel
theorem dd_C_flow_27 : decode bb_C_flow 27 = .ok (.invokestatic 83, 3) := by decide +kernel
theorem dd_C_flow_30 : decode bb_C_flow 30 = .ok (.aload 4, 2) := by decide +kernel
theorem dd_C_flow_32 : decode bb_C_flow 32 = .ok (.invokestatic 102, 3) := by decide +kernel
theorem dd_C_flow_35 : decode bb_C_flow 35 = .ok (.astore 5, 2) := by decide +kernel
theorem dd_C_flow_37 : decode bb_C_flow 37 = .ok (.aload 5, 2) := by decide +kernel
theorem dd_C_flow_39 : decode bb_C_flow 39 = .ok (.iload_n 2, 1) := by decide +kernel
theorem dd_C_flow_40 : decode bb_C_flow 40 = .ok (.invokestatic 106, 3) := by decide +kernel
theorem dd_C_flow_43 : decode bb_C_flow 43 = .ok (.aload 5, 2) := by decide +kernel
theorem dd_C_flow_45 : decode bb_C_flow 45 = .ok (.iload_n 2, 1) := by decide +kernel
theorem dd_C_flow_46 : decode bb_C_flow 46 = .ok (.invokevirtual 110, 3) := by decide +kernel
theorem dd_C_flow_49 : decode bb_C_flow 49 = .ok (.istore 6, 2) := by decide +kernel
theorem dd_C_flow_51 : decode bb_C_flow 51 = .ok (.aload 5, 2) := by decide +kernel
theorem dd_C_flow_53 : decode bb_C_flow 53 = .ok (.iload_n 2, 1) := by decide +kernel
theorem dd_C_flow_54 : decode bb_C_flow 54 = .ok (.invokevirtual 114, 3) := by decide +kernel
theorem dd_C_flow_57 : decode bb_C_flow 57 = .ok (.istore 7, 2) := by decide +kernel
theorem dd_C_flow_59 : decode bb_C_flow 59 = .ok (.iload_n 3, 1) := by decide +kernel
theorem dd_C_flow_60 : decode bb_C_flow 60 = .ok (.ifCond .ne 8, 3) := by decide +kernel
theorem dd_C_flow_63 : decode bb_C_flow 63 = .ok (.iload 6, 2) := by decide +kernel
theorem dd_C_flow_65 : decode bb_C_flow 65 = .ok (.goto 5, 3) := by decide +kernel
theorem dd_C_flow_68 : decode bb_C_flow 68 = .ok (.iload 7, 2) := by decide +kernel
theorem dd_C_flow_70 : decode bb_C_flow 70 = .ok (.iconst 1, 1) := by decide +kernel
theorem dd_C_flow_71 : decode bb_C_flow 71 = .ok (.iload 6, 2) := by decide +kernel
theorem dd_C_flow_73 : decode bb_C_flow 73 = .ok (.iload 7, 2) := by decide +kernel
theorem dd_C_flow_75 : decode bb_C_flow 75 = .ok (.invokestatic 117, 3) := by decide +kernel
theorem dd_C_flow_78 : decode bb_C_flow 78 = .ok (.invokestatic 121, 3) := by decide +kernel
theorem dd_C_flow_81 : decode bb_C_flow 81 = .ok (.idiv, 1) := by decide +kernel
theorem dd_C_flow_82 : decode bb_C_flow 82 = .ok (.ireturn, 1) := by decide +kernel
theorem dd_C_sort_0 : decode bb_C_sort 0 = .ok (.aload_n 0, 1) := by decide +kernel
theorem dd_C_sort_1 : decode bb_C_sort 1 = .ok (.iload_n 1, 1) := by decide +kernel
theorem dd_C_sort_2 : decode bb_C_sort 2 = .ok (.invokevirtual 76, 3) := by decide +kernel
theorem dd_C_sort_5 : decode bb_C_sort 5 = .ok (.invokestatic 102, 3) := by decide +kernel
theorem dd_C_sort_8 : decode bb_C_sort 8 = .ok (.astore_n 2, 1) := by decide +kernel
theorem dd_C_sort_9 : decode bb_C_sort 9 = .ok (.aload_n 2, 1) := by decide +kernel
theorem dd_C_sort_10 : decode bb_C_sort 10 = .ok (.sipush 200, 3) := by decide +kernel
theorem dd_C_sort_13 : decode bb_C_sort 13 = .ok (.invokestatic 106, 3) := by decide +kernel
theorem dd_C_sort_16 : decode bb_C_sort 16 = .ok (.aload_n 2, 1) := by decide +kernel
theorem dd_C_sort_17 : decode bb_C_sort 17 = .ok (.sipush 200, 3) := by decide +kernel
theorem dd_C_sort_20 : decode bb_C_sort 20 = .ok (.invokevirtual 126, 3) := by decide +kernel
theorem dd_C_sort_23 : decode bb_C_sort 23 = .ok (.sipush 500, 3) := by decide +kernel
theorem dd_C_sort_26 : decode bb_C_sort 26 = .ok (.idiv, 1) := by decide +kernel
theorem dd_C_sort_27 : decode bb_C_sort 27 = .ok (.iconst 3, 1) := by decide +kernel
theorem dd_C_sort_28 : decode bb_C_sort 28 = .ok (.invokestatic 129, 3) := by decide +kernel
theorem dd_C_sort_31 : decode bb_C_sort 31 = .ok (.ireturn, 1) := by decide +kernel
theorem dd_C_defect_0 : decode bb_C_defect 0 = .ok (.aload_n 0, 1) := by decide +kernel
theorem dd_C_defect_1 : decode bb_C_defect 1 = .ok (.iload_n 1, 1) := by decide +kernel
theorem dd_C_defect_2 : decode bb_C_defect 2 = .ok (.invokevirtual 76, 3) := by decide +kernel
theorem dd_C_defect_5 : decode bb_C_defect 5 = .ok (.astore_n 3, 1) := by decide +kernel
theorem dd_C_defect_6 : decode bb_C_defect 6 = .ok (.iload_n 2, 1) := by decide +kernel
theorem dd_C_defect_7 : decode bb_C_defect 7 = .ok (.ifCond .lt 8, 3) := by decide +kernel
theorem dd_C_defect_10 : decode bb_C_defect 10 = .ok (.iload_n 2, 1) := by decide +kernel
theorem dd_C_defect_11 : decode bb_C_defect 11 = .ok (.iconst 2, 1) := by decide +kernel
theorem dd_C_defect_12 : decode bb_C_defect 12 = .ok (.if_icmp .le 13, 3) := by decide +kernel
theorem dd_C_defect_15 : decode bb_C_defect 15 = .ok (.new 132, 3) := by decide +kernel
theorem dd_C_defect_18 : decode bb_C_defect 18 = .ok (.dup, 1) := by decide +kernel
theorem dd_C_defect_19 : decode bb_C_defect 19 = .ok (.ldc 134, 2) := by decide +kernel
theorem dd_C_defect_21 : decode bb_C_defect 21 = .ok (.invokespecial 136, 3) := by decide +kernel
theorem dd_C_defect_24 : decode bb_C_defect 24 = .ok (.athrow, 1) := by decide +kernel
theorem dd_C_defect_25 : decode bb_C_defect 25 = .ok (.aload_n 3, 1) := by decide +kernel
theorem dd_C_defect_26 : decode bb_C_defect 26 = .ok (.iload_n 2, 1) := by decide +kernel
theorem dd_C_defect_27 : decode bb_C_defect 27 = .ok (.putfield 137, 3) := by decide +kernel
theorem dd_C_defect_30 : decode bb_C_defect 30 = .ok (.return_, 1) := by decide +kernel
theorem dd_C_works_0 : decode bb_C_works 0 = .ok (.aload_n 0, 1) := by decide +kernel
theorem dd_C_works_1 : decode bb_C_works 1 = .ok (.iload_n 1, 1) := by decide +kernel
theorem dd_C_works_2 : decode bb_C_works 2 = .ok (.invokevirtual 76, 3) := by decide +kernel
theorem dd_C_works_5 : decode bb_C_works 5 = .ok (.astore 4, 2) := by decide +kernel
theorem dd_C_works_7 : decode bb_C_works 7 = .ok (.iload_n 2, 1) := by decide +kernel
theorem dd_C_works_8 : decode bb_C_works 8 = .ok (.invokestatic 80, 3) := by decide +kernel
theorem dd_C_works_11 : decode bb_C_works 11 = .ok (.iload_n 3, 1) := by decide +kernel
theorem dd_C_works_12 : decode bb_C_works 12 = .ok (.invokestatic 80, 3) := by decide +kernel
theorem dd_C_works_15 : decode bb_C_works 15 = .ok (.iload_n 3, 1) := by decide +kernel
theorem dd_C_works_16 : decode bb_C_works 16 = .ok (.iload_n 2, 1) := by decide +kernel
theorem dd_C_works_17 : decode bb_C_works 17 = .ok (.if_icmp .ge 13, 3) := by decide +kernel
theorem dd_C_works_20 : decode bb_C_works 20 = .ok (.new 132, 3) := by decide +kernel
theorem dd_C_works_23 : decode bb_C_works 23 = .ok (.dup, 1) := by decide +kernel
theorem dd_C_works_24 : decode bb_C_works 24 = .ok (.ldc 140, 2) := by decide +kernel
theorem dd_C_works_26 : decode bb_C_works 26 = .ok (.invokespecial 136, 3) := by decide +kernel
theorem dd_C_works_29 : decode bb_C_works 29 = .ok (.athrow, 1) := by decide +kernel
theorem dd_C_works_30 : decode bb_C_works 30 = .ok (.aload 4, 2) := by decide +kernel
theorem dd_C_works_32 : decode bb_C_works 32 = .ok (.iload_n 2, 1) := by decide +kernel
theorem dd_C_works_33 : decode bb_C_works 33 = .ok (.iload_n 3, 1) := by decide +kernel
theorem dd_C_works_34 : decode bb_C_works 34 = .ok (.invokevirtual 142, 3) := by decide +kernel
theorem dd_C_works_37 : decode bb_C_works 37 = .ok (.ifCond .eq 13, 3) := by decide +kernel
theorem dd_C_works_40 : decode bb_C_works 40 = .ok (.new 86, 3) := by decide +kernel
theorem dd_C_works_43 : decode bb_C_works 43 = .ok (.dup, 1) := by decide +kernel
theorem dd_C_works_44 : decode bb_C_works 44 = .ok (.ldc 146, 2) := by decide +kernel
theorem dd_C_works_46 : decode bb_C_works 46 = .ok (.invokespecial 90, 3) := by decide +kernel
theorem dd_C_works_49 : decode bb_C_works 49 = .ok (.athrow, 1) := by decide +kernel
theorem dd_C_works_50 : decode bb_C_works 50 = .ok (.aload 4, 2) := by decide +kernel
theorem dd_C_works_52 : decode bb_C_works 52 = .ok (.iload_n 2, 1) := by decide +kernel
theorem dd_C_works_53 : decode bb_C_works 53 = .ok (.iload_n 3, 1) := by decide +kernel
theorem dd_C_works_54 : decode bb_C_works 54 = .ok (.invokevirtual 148, 3) := by decide +kernel
theorem dd_C_works_57 : decode bb_C_works 57 = .ok (.ifCond .ne 13, 3) := by decide +kernel
theorem dd_C_works_60 : decode bb_C_works 60 = .ok (.new 65, 3) := by decide +kernel
theorem dd_C_works_63 : decode bb_C_works 63 = .ok (.dup, 1) := by decide +kernel
theorem dd_C_works_64 : decode bb_C_works 64 = .ok (.ldc 151, 2) := by decide +kernel
theorem dd_C_works_66 : decode bb_C_works 66 = .ok (.invokespecial 69, 3) := by decide +kernel
theorem dd_C_works_69 : decode bb_C_works 69 = .ok (.athrow, 1) := by decide +kernel
theorem dd_C_works_70 : decode bb_C_works 70 = .ok (.return_, 1) := by decide +kernel
theorem dd_C_season_0 : decode bb_C_season 0 = .ok (.aload_n 0, 1) := by decide +kernel
theorem dd_C_season_1 : decode bb_C_season 1 = .ok (.iload_n 1, 1) := by decide +kernel
theorem dd_C_season_2 : decode bb_C_season 2 = .ok (.invokevirtual 76, 3) := by decide +kernel
theorem dd_C_season_5 : decode bb_C_season 5 = .ok (.astore 4, 2) := by decide +kernel
theorem dd_C_season_7 : decode bb_C_season 7 = .ok (.iload_n 2, 1) := by decide +kernel
theorem dd_C_season_8 : decode bb_C_season 8 = .ok (.ifCond .lt 9, 3) := by decide +kernel
theorem dd_C_season_11 : decode bb_C_season 11 = .ok (.iload_n 2, 1) := by decide +kernel
theorem dd_C_season_12 : decode bb_C_season 12 = .ok (.bipush 12, 2) := by decide +kernel
theorem dd_C_season_14 : decode bb_C_season 14 = .ok (.if_icmp .lt 13, 3) := by decide +kernel
theorem dd_C_season_17 : decode bb_C_season 17 = .ok (.new 132, 3) := by decide +kernel
theorem dd_C_season_20 : decode bb_C_season 20 = .ok (.dup, 1) := by decide +kernel
theorem dd_C_season_21 : decode bb_C_season 21 = .ok (.ldc 153, 2) := by decide +kernel
theorem dd_C_season_23 : decode bb_C_season 23 = .ok (.invokespecial 136, 3) := by decide +kernel
theorem dd_C_season_26 : decode bb_C_season 26 = .ok (.athrow, 1) := by decide +kernel
theorem dd_C_season_27 : decode bb_C_season 27 = .ok (.aload 4, 2) := by decide +kernel
theorem dd_C_season_29 : decode bb_C_season 29 = .ok (.getfield 155, 3) := by decide +kernel
theorem dd_C_season_32 : decode bb_C_season 32 = .ok (.iconst 2, 1) := by decide +kernel
theorem dd_C_season_33 : decode bb_C_season 33 = .ok (.if_icmp .eq 13, 3) := by decide +kernel
theorem dd_C_season_36 : decode bb_C_season 36 = .ok (.new 86, 3) := by decide +kernel
theorem dd_C_season_39 : decode bb_C_season 39 = .ok (.dup, 1) := by decide +kernel
theorem dd_C_season_40 : decode bb_C_season 40 = .ok (.ldc 158, 2) := by decide +kernel
theorem dd_C_season_42 : decode bb_C_season 42 = .ok (.invokespecial 90, 3) := by decide +kernel
theorem dd_C_season_45 : decode bb_C_season 45 = .ok (.athrow, 1) := by decide +kernel
theorem dd_C_season_46 : decode bb_C_season 46 = .ok (.aload 4, 2) := by decide +kernel
theorem dd_C_season_48 : decode bb_C_season 48 = .ok (.iload_n 2, 1) := by decide +kernel
theorem dd_C_season_49 : decode bb_C_season 49 = .ok (.iload_n 3, 1) := by decide +kernel
theorem dd_C_season_50 : decode bb_C_season 50 = .ok (.invokevirtual 160, 3) := by decide +kernel
theorem dd_C_season_53 : decode bb_C_season 53 = .ok (.return_, 1) := by decide +kernel
theorem dd_C_usable_0 : decode bb_C_usable 0 = .ok (.aload_n 0, 1) := by decide +kernel
theorem dd_C_usable_1 : decode bb_C_usable 1 = .ok (.iload_n 1, 1) := by decide +kernel
theorem dd_C_usable_2 : decode bb_C_usable 2 = .ok (.invokevirtual 76, 3) := by decide +kernel
theorem dd_C_usable_5 : decode bb_C_usable 5 = .ok (.astore_n 3, 1) := by decide +kernel
theorem dd_C_usable_6 : decode bb_C_usable 6 = .ok (.iload_n 2, 1) := by decide +kernel
theorem dd_C_usable_7 : decode bb_C_usable 7 = .ok (.invokestatic 80, 3) := by decide +kernel
theorem dd_C_usable_10 : decode bb_C_usable 10 = .ok (.aload_n 3, 1) := by decide +kernel
theorem dd_C_usable_11 : decode bb_C_usable 11 = .ok (.iload_n 2, 1) := by decide +kernel
theorem dd_C_usable_12 : decode bb_C_usable 12 = .ok (.aload_n 0, 1) := by decide +kernel
theorem dd_C_usable_13 : decode bb_C_usable 13 = .ok (.getfield 46, 3) := by decide +kernel
theorem dd_C_usable_16 : decode bb_C_usable 16 = .ok (.invokevirtual 164, 3) := by decide +kernel
theorem dd_C_usable_19 : decode bb_C_usable 19 = .ok (.ireturn, 1) := by decide +kernel
theorem dd_C_near_0 : decode bb_C_near 0 = .ok (.iload_n 1, 1) := by decide +kernel
theorem dd_C_near_1 : decode bb_C_near 1 = .ok (.iload_n 2, 1) := by decide +kernel
theorem dd_C_near_2 : decode bb_C_near 2 = .ok (.invokestatic 61, 3) := by decide +kernel
theorem dd_C_near_5 : decode bb_C_near 5 = .ok (.iload_n 3, 1) := by decide +kernel
theorem dd_C_near_6 : decode bb_C_near 6 = .ok (.invokestatic 80, 3) := by decide +kernel
theorem dd_C_near_9 : decode bb_C_near 9 = .ok (.iload 4, 2) := by decide +kernel
theorem dd_C_near_11 : decode bb_C_near 11 = .ok (.invokestatic 168, 3) := by decide +kernel
theorem dd_C_near_14 : decode bb_C_near 14 = .ok (.aload_n 0, 1) := by decide +kernel
theorem dd_C_near_15 : decode bb_C_near 15 = .ok (.getfield 28, 3) := by decide +kernel
theorem dd_C_near_18 : decode bb_C_near 18 = .ok (.invokevirtual 171, 3) := by decide +kernel
theorem dd_C_near_21 : decode bb_C_near 21 = .ok (.aload_n 0, 1) := by decide +kernel
theorem dd_C_near_22 : decode bb_C_near 22 = .ok (.getfield 11, 3) := by decide +kernel
theorem dd_C_near_25 : decode bb_C_near 25 = .ok (.astore 5, 2) := by decide +kernel
theorem dd_C_near_27 : decode bb_C_near 27 = .ok (.aload 5, 2) := by decide +kernel
theorem dd_C_near_29 : decode bb_C_near 29 = .ok (.arraylength, 1) := by decide +kernel
theorem dd_C_near_30 : decode bb_C_near 30 = .ok (.istore 6, 2) := by decide +kernel
theorem dd_C_near_32 : decode bb_C_near 32 = .ok (.iconst 0, 1) := by decide +kernel
theorem dd_C_near_33 : decode bb_C_near 33 = .ok (.istore 7, 2) := by decide +kernel
theorem dd_C_near_35 : decode bb_C_near 35 = .ok (.iload 7, 2) := by decide +kernel
theorem dd_C_near_37 : decode bb_C_near 37 = .ok (.iload 6, 2) := by decide +kernel
theorem dd_C_near_39 : decode bb_C_near 39 = .ok (.if_icmp .ge 53, 3) := by decide +kernel
theorem dd_C_near_42 : decode bb_C_near 42 = .ok (.aload 5, 2) := by decide +kernel
theorem dd_C_near_44 : decode bb_C_near 44 = .ok (.iload 7, 2) := by decide +kernel
theorem dd_C_near_46 : decode bb_C_near 46 = .ok (.aaload, 1) := by decide +kernel
theorem dd_C_near_47 : decode bb_C_near 47 = .ok (.astore 8, 2) := by decide +kernel
theorem dd_C_near_49 : decode bb_C_near 49 = .ok (.aload 8, 2) := by decide +kernel
theorem dd_C_near_51 : decode bb_C_near 51 = .ok (.ifnull 35, 3) := by decide +kernel
theorem dd_C_near_54 : decode bb_C_near 54 = .ok (.aload 8, 2) := by decide +kernel
theorem dd_C_near_56 : decode bb_C_near 56 = .ok (.iload_n 3, 1) := by decide +kernel
theorem dd_C_near_57 : decode bb_C_near 57 = .ok (.aload_n 0, 1) := by decide +kernel
theorem dd_C_near_58 : decode bb_C_near 58 = .ok (.getfield 46, 3) := by decide +kernel
theorem dd_C_near_61 : decode bb_C_near 61 = .ok (.invokevirtual 164, 3) := by decide +kernel
theorem dd_C_near_64 : decode bb_C_near 64 = .ok (.ifCond .eq 22, 3) := by decide +kernel
theorem dd_C_near_67 : decode bb_C_near 67 = .ok (.aload_n 0, 1) := by decide +kernel
theorem dd_C_near_68 : decode bb_C_near 68 = .ok (.getfield 28, 3) := by decide +kernel
theorem dd_C_near_71 : decode bb_C_near 71 = .ok (.aload 8, 2) := by decide +kernel
theorem dd_C_near_73 : decode bb_C_near 73 = .ok (.iload_n 1, 1) := by decide +kernel
theorem dd_C_near_74 : decode bb_C_near 74 = .ok (.iload_n 2, 1) := by decide +kernel
theorem dd_C_near_75 : decode bb_C_near 75 = .ok (.invokevirtual 174, 3) := by decide +kernel
theorem dd_C_near_78 : decode bb_C_near 78 = .ok (.aload 8, 2) := by decide +kernel
theorem dd_C_near_80 : decode bb_C_near 80 = .ok (.getfield 177, 3) := by decide +kernel
theorem dd_C_near_83 : decode bb_C_near 83 = .ok (.invokevirtual 180, 3) := by decide +kernel
theorem dd_C_near_86 : decode bb_C_near 86 = .ok (.iinc 7 1, 3) := by decide +kernel
theorem dd_C_near_89 : decode bb_C_near 89 = .ok (.goto (-54), 3) := by decide +kernel
theorem dd_C_near_92 : decode bb_C_near 92 = .ok (.aload_n 0, 1) := by decide +kernel
theorem dd_C_near_93 : decode bb_C_near 93 = .ok (.getfield 28, 3) := by decide +kernel
theorem dd_C_near_96 : decode bb_C_near 96 = .ok (.iload 4, 2) := by decide +kernel
theorem dd_C_near_98 : decode bb_C_near 98 = .ok (.invokevirtual 183, 3) := by decide +kernel
theorem dd_C_near_101 : decode bb_C_near 101 = .ok (.ireturn, 1) := by decide +kernel
theorem dd_C_both_0 : decode bb_C_both 0 = .ok (.aload_n 0, 1) := by decide +kernel
theorem dd_C_both_1 : decode bb_C_both 1 = .ok (.iload_n 1, 1) := by decide +kernel
theorem dd_C_both_2 : decode bb_C_both 2 = .ok (.invokevirtual 76, 3) := by decide +kernel
theorem dd_C_both_5 : decode bb_C_both 5 = .ok (.astore 4, 2) := by decide +kernel
theorem dd_C_both_7 : decode bb_C_both 7 = .ok (.aload_n 0, 1) := by decide +kernel
theorem dd_C_both_8 : decode bb_C_both 8 = .ok (.iload_n 2, 1) := by decide +kernel
theorem dd_C_both_9 : decode bb_C_both 9 = .ok (.invokevirtual 76, 3) := by decide +kernel
theorem dd_C_both_12 : decode bb_C_both 12 = .ok (.astore 5, 2) := by decide +kernel
theorem dd_C_both_14 : decode bb_C_both 14 = .ok (.iload_n 1, 1) := by decide +kernel
theorem dd_C_both_15 : decode bb_C_both 15 = .ok (.iload_n 2, 1) := by decide +kernel
theorem dd_C_both_16 : decode bb_C_both 16 = .ok (.if_icmp .ne 13, 3) := by decide +kernel
theorem dd_C_both_19 : decode bb_C_both 19 = .ok (.new 54, 3) := by decide +kernel
theorem dd_C_both_22 : decode bb_C_both 22 = .ok (.dup, 1) := by decide +kernel
theorem dd_C_both_23 : decode bb_C_both 23 = .ok (.ldc 186, 2) := by decide +kernel
theorem dd_C_both_25 : decode bb_C_both 25 = .ok (.invokespecial 58, 3) := by decide +kernel
theorem dd_C_both_28 : decode bb_C_both 28 = .ok (.athrow, 1) := by decide +kernel
theorem dd_C_both_29 : decode bb_C_both 29 = .ok (.iload_n 3, 1) := by decide +kernel
theorem dd_C_both_30 : decode bb_C_both 30 = .ok (.invokestatic 83, 3) := by decide +kernel
theorem dd_C_both_33 : decode bb_C_both 33 = .ok (.aload 4, 2) := by decide +kernel
theorem dd_C_both_35 : decode bb_C_both 35 = .ok (.invokestatic 102, 3) := by decide +kernel
theorem dd_C_both_38 : decode bb_C_both 38 = .ok (.astore 6, 2) := by decide +kernel
theorem dd_C_both_40 : decode bb_C_both 40 = .ok (.aload 5, 2) := by decide +kernel
theorem dd_C_both_42 : decode bb_C_both 42 = .ok (.invokestatic 102, 3) := by decide +kernel
theorem dd_C_both_45 : decode bb_C_both 45 = .ok (.astore 7, 2) := by decide +kernel
theorem dd_C_both_47 : decode bb_C_both 47 = .ok (.aload 6, 2) := by decide +kernel
theorem dd_C_both_49 : decode bb_C_both 49 = .ok (.iload_n 3, 1) := by decide +kernel
theorem dd_C_both_50 : decode bb_C_both 50 = .ok (.invokestatic 106, 3) := by decide +kernel
theorem dd_C_both_53 : decode bb_C_both 53 = .ok (.aload 7, 2) := by decide +kernel
theorem dd_C_both_55 : decode bb_C_both 55 = .ok (.iload_n 3, 1) := by decide +kernel
theorem dd_C_both_56 : decode bb_C_both 56 = .ok (.invokestatic 106, 3) := by decide +kernel
theorem dd_C_both_59 : decode bb_C_both 59 = .ok (.aload 6, 2) := by decide +kernel
theorem dd_C_both_61 : decode bb_C_both 61 = .ok (.iload_n 3, 1) := by decide +kernel
theorem dd_C_both_62 : decode bb_C_both 62 = .ok (.invokevirtual 126, 3) := by decide +kernel
theorem dd_C_both_65 : decode bb_C_both 65 = .ok (.aload 7, 2) := by decide +kernel
theorem dd_C_both_67 : decode bb_C_both 67 = .ok (.iload_n 3, 1) := by decide +kernel
theorem dd_C_both_68 : decode bb_C_both 68 = .ok (.invokevirtual 126, 3) := by decide +kernel
theorem dd_C_both_71 : decode bb_C_both 71 = .ok (.iadd, 1) := by decide +kernel
theorem dd_C_both_72 : decode bb_C_both 72 = .ok (.istore 8, 2) := by decide +kernel
theorem dd_C_both_74 : decode bb_C_both 74 = .ok (.aload 4, 2) := by decide +kernel
theorem dd_C_both_76 : decode bb_C_both 76 = .ok (.getfield 188, 3) := by decide +kernel
theorem dd_C_both_79 : decode bb_C_both 79 = .ok (.aload 5, 2) := by decide +kernel
theorem dd_C_both_81 : decode bb_C_both 81 = .ok (.getfield 188, 3) := by decide +kernel
theorem dd_C_both_84 : decode bb_C_both 84 = .ok (.if_icmp .ne 24, 3) := by decide +kernel
theorem dd_C_both_87 : decode bb_C_both 87 = .ok (.iload 8, 2) := by decide +kernel
theorem dd_C_both_89 : decode bb_C_both 89 = .ok (.iconst 3, 1) := by decide +kernel
theorem dd_C_both_90 : decode bb_C_both 90 = .ok (.imul, 1) := by decide +kernel
theorem dd_C_both_91 : decode bb_C_both 91 = .ok (.iconst 4, 1) := by decide +kernel
theorem dd_C_both_92 : decode bb_C_both 92 = .ok (.idiv, 1) := by decide +kernel
theorem dd_C_both_93 : decode bb_C_both 93 = .ok (.aload_n 0, 1) := by decide +kernel
theorem dd_C_both_94 : decode bb_C_both 94 = .ok (.aload 4, 2) := by decide +kernel
theorem dd_C_both_96 : decode bb_C_both 96 = .ok (.getfield 188, 3) := by decide +kernel
theorem dd_C_both_99 : decode bb_C_both 99 = .ok (.invokevirtual 191, 3) := by decide +kernel
theorem dd_C_both_102 : decode bb_C_both 102 = .ok (.invokestatic 129, 3) := by decide +kernel
theorem dd_C_both_105 : decode bb_C_both 105 = .ok (.goto 5, 3) := by decide +kernel
theorem dd_C_both_108 : decode bb_C_both 108 = .ok (.iload 8, 2) := by decide +kernel
theorem dd_C_both_110 : decode bb_C_both 110 = .ok (.ireturn, 1) := by decide +kernel
theorem dd_C_supply_0 : decode bb_C_supply 0 = .ok (.iload_n 1, 1) := by decide +kernel
theorem dd_C_supply_1 : decode bb_C_supply 1 = .ok (.iload_n 2, 1) := by decide +kernel
theorem dd_C_supply_2 : decode bb_C_supply 2 = .ok (.invokestatic 61, 3) := by decide +kernel
theorem dd_C_supply_5 : decode bb_C_supply 5 = .ok (.iload_n 3, 1) := by decide +kernel
theorem dd_C_supply_6 : decode bb_C_supply 6 = .ok (.invokestatic 80, 3) := by decide +kernel
theorem dd_C_supply_9 : decode bb_C_supply 9 = .ok (.iload 4, 2) := by decide +kernel
theorem dd_C_supply_11 : decode bb_C_supply 11 = .ok (.invokestatic 83, 3) := by decide +kernel
theorem dd_C_supply_14 : decode bb_C_supply 14 = .ok (.iload 5, 2) := by decide +kernel
theorem dd_C_supply_16 : decode bb_C_supply 16 = .ok (.ifCond .lt 10, 3) := by decide +kernel
theorem dd_C_supply_19 : decode bb_C_supply 19 = .ok (.iload 5, 2) := by decide +kernel
theorem dd_C_supply_21 : decode bb_C_supply 21 = .ok (.ldc 194, 2) := by decide +kernel
theorem dd_C_supply_23 : decode bb_C_supply 23 = .ok (.if_icmp .le 13, 3) := by decide +kernel
theorem dd_C_supply_26 : decode bb_C_supply 26 = .ok (.new 132, 3) := by decide +kernel
theorem dd_C_supply_29 : decode bb_C_supply 29 = .ok (.dup, 1) := by decide +kernel
theorem dd_C_supply_30 : decode bb_C_supply 30 = .ok (.ldc 195, 2) := by decide +kernel
theorem dd_C_supply_32 : decode bb_C_supply 32 = .ok (.invokespecial 136, 3) := by decide +kernel
theorem dd_C_supply_35 : decode bb_C_supply 35 = .ok (.athrow, 1) := by decide +kernel
theorem dd_C_supply_36 : decode bb_C_supply 36 = .ok (.iconst 0, 1) := by decide +kernel
theorem dd_C_supply_37 : decode bb_C_supply 37 = .ok (.istore 6, 2) := by decide +kernel
theorem dd_C_supply_39 : decode bb_C_supply 39 = .ok (.iconst 0, 1) := by decide +kernel
theorem dd_C_supply_40 : decode bb_C_supply 40 = .ok (.istore 7, 2) := by decide +kernel
theorem dd_C_supply_42 : decode bb_C_supply 42 = .ok (.iload 7, 2) := by decide +kernel
theorem dd_C_supply_44 : decode bb_C_supply 44 = .ok (.aload_n 0, 1) := by decide +kernel
theorem dd_C_supply_45 : decode bb_C_supply 45 = .ok (.getfield 21, 3) := by decide +kernel
theorem dd_C_supply_48 : decode bb_C_supply 48 = .ok (.arraylength, 1) := by decide +kernel
theorem dd_C_supply_49 : decode bb_C_supply 49 = .ok (.if_icmp .ge 37, 3) := by decide +kernel
theorem dd_C_supply_52 : decode bb_C_supply 52 = .ok (.iload 6, 2) := by decide +kernel
theorem dd_C_supply_54 : decode bb_C_supply 54 = .ok (.aload_n 0, 1) := by decide +kernel
theorem dd_C_supply_55 : decode bb_C_supply 55 = .ok (.iload 7, 2) := by decide +kernel
theorem dd_C_supply_57 : decode bb_C_supply 57 = .ok (.iload_n 1, 1) := by decide +kernel
theorem dd_C_supply_58 : decode bb_C_supply 58 = .ok (.iload_n 2, 1) := by decide +kernel
theorem dd_C_supply_59 : decode bb_C_supply 59 = .ok (.iload_n 3, 1) := by decide +kernel
theorem dd_C_supply_60 : decode bb_C_supply 60 = .ok (.iload 4, 2) := by decide +kernel
theorem dd_C_supply_62 : decode bb_C_supply 62 = .ok (.iload 5, 2) := by decide +kernel
theorem dd_C_supply_64 : decode bb_C_supply 64 = .ok (.invokevirtual 197, 3) := by decide +kernel
theorem dd_C_supply_67 : decode bb_C_supply 67 = .ok (.aload_n 0, 1) := by decide +kernel
theorem dd_C_supply_68 : decode bb_C_supply 68 = .ok (.getfield 21, 3) := by decide +kernel
theorem dd_C_supply_71 : decode bb_C_supply 71 = .ok (.iload 7, 2) := by decide +kernel
theorem dd_C_supply_73 : decode bb_C_supply 73 = .ok (.iaload, 1) := by decide +kernel
theorem dd_C_supply_74 : decode bb_C_supply 74 = .ok (.invokestatic 129, 3) := by decide +kernel
theorem dd_C_supply_77 : decode bb_C_supply 77 = .ok (.iadd, 1) := by decide +kernel
theorem dd_C_supply_78 : decode bb_C_supply 78 = .ok (.istore 6, 2) := by decide +kernel
theorem dd_C_supply_80 : decode bb_C_supply 80 = .ok (.iinc 7 1, 3) := by decide +kernel
theorem dd_C_supply_83 : decode bb_C_supply 83 = .ok (.goto (-41), 3) := by decide +kernel
theorem dd_C_supply_86 : decode bb_C_supply 86 = .ok (.iload 6, 2) := by decide +kernel
theorem dd_C_supply_88 : decode bb_C_supply 88 = .ok (.ireturn, 1) := by decide +kernel
theorem dd_C_round_0 : decode bb_C_round 0 = .ok (.iload_n 3, 1) := by decide +kernel
theorem dd_C_round_1 : decode bb_C_round 1 = .ok (.bipush 6, 2) := by decide +kernel
theorem dd_C_round_3 : decode bb_C_round 3 = .ok (.invokestatic 129, 3) := by decide +kernel
theorem dd_C_round_6 : decode bb_C_round 6 = .ok (.istore 4, 2) := by decide +kernel
theorem dd_C_round_8 : decode bb_C_round 8 = .ok (.iconst 0, 1) := by decide +kernel
theorem dd_C_round_9 : decode bb_C_round 9 = .ok (.istore 5, 2) := by decide +kernel
theorem dd_C_round_11 : decode bb_C_round 11 = .ok (.iload 5, 2) := by decide +kernel
theorem dd_C_round_13 : decode bb_C_round 13 = .ok (.iload 4, 2) := by decide +kernel
theorem dd_C_round_15 : decode bb_C_round 15 = .ok (.if_icmp .ge 20, 3) := by decide +kernel
theorem dd_C_round_18 : decode bb_C_round 18 = .ok (.aload_n 0, 1) := by decide +kernel
theorem dd_C_round_19 : decode bb_C_round 19 = .ok (.lload_n 1, 1) := by decide +kernel
theorem dd_C_round_20 : decode bb_C_round 20 = .ok (.iload 5, 2) := by decide +kernel
theorem dd_C_round_22 : decode bb_C_round 22 = .ok (.invokestatic 201, 3) := by decide +kernel
theorem dd_C_round_25 : decode bb_C_round 25 = .ok (.invokevirtual 76, 3) := by decide +kernel
theorem dd_C_round_28 : decode bb_C_round 28 = .ok (.pop, 1) := by decide +kernel
theorem dd_C_round_29 : decode bb_C_round 29 = .ok (.iinc 5 1, 3) := by decide +kernel
theorem dd_C_round_32 : decode bb_C_round 32 = .ok (.goto (-21), 3) := by decide +kernel
theorem dd_C_round_35 : decode bb_C_round 35 = .ok (.iload_n 3, 1) := by decide +kernel
theorem dd_C_round_36 : decode bb_C_round 36 = .ok (.ifCond .lt 9, 3) := by decide +kernel
theorem dd_C_round_39 : decode bb_C_round 39 = .ok (.iload_n 3, 1) := by decide +kernel
theorem dd_C_round_40 : decode bb_C_round 40 = .ok (.bipush 6, 2) := by decide +kernel
theorem dd_C_round_42 : decode bb_C_round 42 = .ok (.if_icmp .le 13, 3) := by decide +kernel
theorem dd_C_round_45 : decode bb_C_round 45 = .ok (.new 132, 3) := by decide +kernel
theorem dd_C_round_48 : decode bb_C_round 48 = .ok (.dup, 1) := by decide +kernel
theorem dd_C_round_49 : decode bb_C_round 49 = .ok (.ldc 205, 2) := by decide +kernel
theorem dd_C_round_51 : decode bb_C_round 51 = .ok (.invokespecial 136, 3) := by decide +kernel
theorem dd_C_round_54 : decode bb_C_round 54 = .ok (.athrow, 1) := by decide +kernel
theorem dd_C_round_55 : decode bb_C_round 55 = .ok (.lload_n 1, 1) := by decide +kernel
theorem dd_C_round_56 : decode bb_C_round 56 = .ok (.iload 4, 2) := by decide +kernel
theorem dd_C_round_58 : decode bb_C_round 58 = .ok (.invokestatic 207, 3) := by decide +kernel
theorem dd_C_round_61 : decode bb_C_round 61 = .ok (.lstore 5, 2) := by decide +kernel
theorem dd_C_round_63 : decode bb_C_round 63 = .ok (.aload_n 0, 1) := by decide +kernel
theorem dd_C_round_64 : decode bb_C_round 64 = .ok (.getfield 35, 3) := by decide +kernel
theorem dd_C_round_67 : decode bb_C_round 67 = .ok (.invokevirtual 211, 3) := by decide +kernel
theorem dd_C_round_70 : decode bb_C_round 70 = .ok (.aload_n 0, 1) := by decide +kernel
theorem dd_C_round_71 : decode bb_C_round 71 = .ok (.getfield 11, 3) := by decide +kernel
theorem dd_C_round_74 : decode bb_C_round 74 = .ok (.astore 7, 2) := by decide +kernel
theorem dd_C_round_76 : decode bb_C_round 76 = .ok (.aload 7, 2) := by decide +kernel
theorem dd_C_round_78 : decode bb_C_round 78 = .ok (.arraylength, 1) := by decide +kernel
theorem dd_C_round_79 : decode bb_C_round 79 = .ok (.istore 8, 2) := by decide +kernel
theorem dd_C_round_81 : decode bb_C_round 81 = .ok (.iconst 0, 1) := by decide +kernel
theorem dd_C_round_82 : decode bb_C_round 82 = .ok (.istore 9, 2) := by decide +kernel
theorem dd_C_round_84 : decode bb_C_round 84 = .ok (.iload 9, 2) := by decide +kernel
theorem dd_C_round_86 : decode bb_C_round 86 = .ok (.iload 8, 2) := by decide +kernel
theorem dd_C_round_88 : decode bb_C_round 88 = .ok (.if_icmp .ge 45, 3) := by decide +kernel
theorem dd_C_round_91 : decode bb_C_round 91 = .ok (.aload 7, 2) := by decide +kernel
theorem dd_C_round_93 : decode bb_C_round 93 = .ok (.iload 9, 2) := by decide +kernel
theorem dd_C_round_95 : decode bb_C_round 95 = .ok (.aaload, 1) := by decide +kernel
theorem dd_C_round_96 : decode bb_C_round 96 = .ok (.astore 10, 2) := by decide +kernel
theorem dd_C_round_98 : decode bb_C_round 98 = .ok (.aload 10, 2) := by decide +kernel
theorem dd_C_round_100 : decode bb_C_round 100 = .ok (.ifnull 27, 3) := by decide +kernel
theorem dd_C_round_103 : decode bb_C_round 103 = .ok (.lload 5, 2) := by decide +kernel
theorem dd_C_round_105 : decode bb_C_round 105 = .ok (.aload 10, 2) := by decide +kernel
theorem dd_C_round_107 : decode bb_C_round 107 = .ok (.getfield 177, 3) := by decide +kernel
theorem dd_C_round_110 : decode bb_C_round 110 = .ok (.lushr, 1) := by decide +kernel
theorem dd_C_round_111 : decode bb_C_round 111 = .ok (.lconst 1, 1) := by decide +kernel
theorem dd_C_round_112 : decode bb_C_round 112 = .ok (.land, 1) := by decide +kernel
theorem dd_C_round_113 : decode bb_C_round 113 = .ok (.lconst 0, 1) := by decide +kernel
theorem dd_C_round_114 : decode bb_C_round 114 = .ok (.lcmp, 1) := by decide +kernel
theorem dd_C_round_115 : decode bb_C_round 115 = .ok (.ifCond .eq 12, 3) := by decide +kernel
theorem dd_C_round_118 : decode bb_C_round 118 = .ok (.aload_n 0, 1) := by decide +kernel
theorem dd_C_round_119 : decode bb_C_round 119 = .ok (.getfield 35, 3) := by decide +kernel
theorem dd_C_round_122 : decode bb_C_round 122 = .ok (.aload 10, 2) := by decide +kernel
theorem dd_C_round_124 : decode bb_C_round 124 = .ok (.invokevirtual 212, 3) := by decide +kernel
theorem dd_C_round_127 : decode bb_C_round 127 = .ok (.iinc 9 1, 3) := by decide +kernel
theorem dd_C_round_130 : decode bb_C_round 130 = .ok (.goto (-46), 3) := by decide +kernel
theorem dd_C_round_133 : decode bb_C_round 133 = .ok (.aload_n 0, 1) := by decide +kernel
theorem dd_C_round_134 : decode bb_C_round 134 = .ok (.getfield 35, 3) := by decide +kernel
theorem dd_C_round_137 : decode bb_C_round 137 = .ok (.invokevirtual 216, 3) := by decide +kernel
theorem dd_C_round_140 : decode bb_C_round 140 = .ok (.ireturn, 1) := by decide +kernel
theorem dd_C_stop_0 : decode bb_C_stop 0 = .ok (.iload_n 1, 1) := by decide +kernel
theorem dd_C_stop_1 : decode bb_C_stop 1 = .ok (.invokestatic 168, 3) := by decide +kernel
theorem dd_C_stop_4 : decode bb_C_stop 4 = .ok (.aload_n 0, 1) := by decide +kernel
theorem dd_C_stop_5 : decode bb_C_stop 5 = .ok (.getfield 35, 3) := by decide +kernel
theorem dd_C_stop_8 : decode bb_C_stop 8 = .ok (.iload_n 1, 1) := by decide +kernel
theorem dd_C_stop_9 : decode bb_C_stop 9 = .ok (.invokevirtual 220, 3) := by decide +kernel
theorem dd_C_stop_12 : decode bb_C_stop 12 = .ok (.ireturn, 1) := by decide +kernel
theorem dd_C_overdue_0 : decode bb_C_overdue 0 = .ok (.iload_n 1, 1) := by decide +kernel
theorem dd_C_overdue_1 : decode bb_C_overdue 1 = .ok (.invokestatic 80, 3) := by decide +kernel
theorem dd_C_overdue_4 : decode bb_C_overdue 4 = .ok (.iload_n 2, 1) := by decide +kernel
theorem dd_C_overdue_5 : decode bb_C_overdue 5 = .ok (.ifCond .lt 10, 3) := by decide +kernel
theorem dd_C_overdue_8 : decode bb_C_overdue 8 = .ok (.iload_n 2, 1) := by decide +kernel
theorem dd_C_overdue_9 : decode bb_C_overdue 9 = .ok (.sipush 9999, 3) := by decide +kernel
theorem dd_C_overdue_12 : decode bb_C_overdue 12 = .ok (.if_icmp .le 13, 3) := by decide +kernel
theorem dd_C_overdue_15 : decode bb_C_overdue 15 = .ok (.new 132, 3) := by decide +kernel
theorem dd_C_overdue_18 : decode bb_C_overdue 18 = .ok (.dup, 1) := by decide +kernel
theorem dd_C_overdue_19 : decode bb_C_overdue 19 = .ok (.ldc 223, 2) := by decide +kernel
theorem dd_C_overdue_21 : decode bb_C_overdue 21 = .ok (.invokespecial 136, 3) := by decide +kernel
theorem dd_C_overdue_24 : decode bb_C_overdue 24 = .ok (.athrow, 1) := by decide +kernel
theorem dd_C_overdue_25 : decode bb_C_overdue 25 = .ok (.iload_n 3, 1) := by decide +kernel
theorem dd_C_overdue_26 : decode bb_C_overdue 26 = .ok (.invokestatic 168, 3) := by decide +kernel
theorem dd_C_overdue_29 : decode bb_C_overdue 29 = .ok (.aload_n 0, 1) := by decide +kernel
theorem dd_C_overdue_30 : decode bb_C_overdue 30 = .ok (.getfield 28, 3) := by decide +kernel
theorem dd_C_overdue_33 : decode bb_C_overdue 33 = .ok (.invokevirtual 171, 3) := by decide +kernel
theorem dd_C_overdue_36 : decode bb_C_overdue 36 = .ok (.aload_n 0, 1) := by decide +kernel
theorem dd_C_overdue_37 : decode bb_C_overdue 37 = .ok (.getfield 11, 3) := by decide +kernel
theorem dd_C_overdue_40 : decode bb_C_overdue 40 = .ok (.astore 4, 2) := by decide +kernel
theorem dd_C_overdue_42 : decode bb_C_overdue 42 = .ok (.aload 4, 2) := by decide +kernel
theorem dd_C_overdue_44 : decode bb_C_overdue 44 = .ok (.arraylength, 1) := by decide +kernel
theorem dd_C_overdue_45 : decode bb_C_overdue 45 = .ok (.istore 5, 2) := by decide +kernel
theorem dd_C_overdue_47 : decode bb_C_overdue 47 = .ok (.iconst 0, 1) := by decide +kernel
theorem dd_C_overdue_48 : decode bb_C_overdue 48 = .ok (.istore 6, 2) := by decide +kernel
theorem dd_C_overdue_50 : decode bb_C_overdue 50 = .ok (.iload 6, 2) := by decide +kernel
theorem dd_C_overdue_52 : decode bb_C_overdue 52 = .ok (.iload 5, 2) := by decide +kernel
theorem dd_C_overdue_54 : decode bb_C_overdue 54 = .ok (.if_icmp .ge 48, 3) := by decide +kernel
theorem dd_C_overdue_57 : decode bb_C_overdue 57 = .ok (.aload 4, 2) := by decide +kernel
theorem dd_C_overdue_59 : decode bb_C_overdue 59 = .ok (.iload 6, 2) := by decide +kernel
theorem dd_C_overdue_61 : decode bb_C_overdue 61 = .ok (.aaload, 1) := by decide +kernel
theorem dd_C_overdue_62 : decode bb_C_overdue 62 = .ok (.astore 7, 2) := by decide +kernel
theorem dd_C_overdue_64 : decode bb_C_overdue 64 = .ok (.aload 7, 2) := by decide +kernel
theorem dd_C_overdue_66 : decode bb_C_overdue 66 = .ok (.ifnull 30, 3) := by decide +kernel
theorem dd_C_overdue_69 : decode bb_C_overdue 69 = .ok (.aload 7, 2) := by decide +kernel
theorem dd_C_overdue_71 : decode bb_C_overdue 71 = .ok (.iload_n 1, 1) := by decide +kernel
theorem dd_C_overdue_72 : decode bb_C_overdue 72 = .ok (.iload_n 2, 1) := by decide +kernel
theorem dd_C_overdue_73 : decode bb_C_overdue 73 = .ok (.invokevirtual 225, 3) := by decide +kernel
theorem dd_C_overdue_76 : decode bb_C_overdue 76 = .ok (.ifCond .eq 20, 3) := by decide +kernel
theorem dd_C_overdue_79 : decode bb_C_overdue 79 = .ok (.aload_n 0, 1) := by decide +kernel
theorem dd_C_overdue_80 : decode bb_C_overdue 80 = .ok (.getfield 28, 3) := by decide +kernel
theorem dd_C_overdue_83 : decode bb_C_overdue 83 = .ok (.aload 7, 2) := by decide +kernel
theorem dd_C_overdue_85 : decode bb_C_overdue 85 = .ok (.invokevirtual 228, 3) := by decide +kernel
theorem dd_C_overdue_88 : decode bb_C_overdue 88 = .ok (.aload 7, 2) := by decide +kernel
theorem dd_C_overdue_90 : decode bb_C_overdue 90 = .ok (.getfield 177, 3) := by decide +kernel
theorem dd_C_overdue_93 : decode bb_C_overdue 93 = .ok (.invokevirtual 180, 3) := by decide +kernel
theorem dd_C_overdue_96 : decode bb_C_overdue 96 = .ok (.iinc 6 1, 3) := by decide +kernel
theorem dd_C_overdue_99 : decode bb_C_overdue 99 = .ok (.goto (-49), 3) := by decide +kernel
theorem dd_C_overdue_102 : decode bb_C_overdue 102 = .ok (.aload_n 0, 1) := by decide +kernel
theorem dd_C_overdue_103 : decode bb_C_overdue 103 = .ok (.getfield 28, 3) := by decide +kernel
theorem dd_C_overdue_106 : decode bb_C_overdue 106 = .ok (.iload_n 3, 1) := by decide +kernel
theorem dd_C_overdue_107 : decode bb_C_overdue 107 = .ok (.invokevirtual 183, 3) := by decide +kernel
theorem dd_C_overdue_110 : decode bb_C_overdue 110 = .ok (.ireturn, 1) := by decide +kernel
theorem dd_C_testAt_0 : decode bb_C_testAt 0 = .ok (.iload_n 1, 1) := by decide +kernel
theorem dd_C_testAt_1 : decode bb_C_testAt 1 = .ok (.ifCond .lt 21, 3) := by decide +kernel
theorem dd_C_testAt_4 : decode bb_C_testAt 4 = .ok (.iload_n 1, 1) := by decide +kernel
theorem dd_C_testAt_5 : decode bb_C_testAt 5 = .ok (.aload_n 0, 1) := by decide +kernel
theorem dd_C_testAt_6 : decode bb_C_testAt 6 = .ok (.getfield 17, 3) := by decide +kernel
theorem dd_C_testAt_9 : decode bb_C_testAt 9 = .ok (.arraylength, 1) := by decide +kernel
theorem dd_C_testAt_10 : decode bb_C_testAt 10 = .ok (.if_icmp .ge 12, 3) := by decide +kernel
theorem dd_C_testAt_13 : decode bb_C_testAt 13 = .ok (.aload_n 0, 1) := by decide +kernel
theorem dd_C_testAt_14 : decode bb_C_testAt 14 = .ok (.getfield 17, 3) := by decide +kernel
theorem dd_C_testAt_17 : decode bb_C_testAt 17 = .ok (.iload_n 1, 1) := by decide +kernel
theorem dd_C_testAt_18 : decode bb_C_testAt 18 = .ok (.aaload, 1) := by decide +kernel
theorem dd_C_testAt_19 : decode bb_C_testAt 19 = .ok (.goto 4, 3) := by decide +kernel
theorem dd_C_testAt_22 : decode bb_C_testAt 22 = .ok (.aconst_null, 1) := by decide +kernel
theorem dd_C_testAt_23 : decode bb_C_testAt 23 = .ok (.astore_n 3, 1) := by decide +kernel
theorem dd_C_testAt_24 : decode bb_C_testAt 24 = .ok (.aload_n 3, 1) := by decide +kernel
theorem dd_C_testAt_25 : decode bb_C_testAt 25 = .ok (.ifnonnull 13, 3) := by decide +kernel
theorem dd_C_testAt_28 : decode bb_C_testAt 28 = .ok (.new 54, 3) := by decide +kernel
theorem dd_C_testAt_31 : decode bb_C_testAt 31 = .ok (.dup, 1) := by decide +kernel
theorem dd_C_testAt_32 : decode bb_C_testAt 32 = .ok (.ldc 231, 2) := by decide +kernel
theorem dd_C_testAt_34 : decode bb_C_testAt 34 = .ok (.invokespecial 58, 3) := by decide +kernel
theorem dd_C_testAt_37 : decode bb_C_testAt 37 = .ok (.athrow, 1) := by decide +kernel
theorem dd_C_testAt_38 : decode bb_C_testAt 38 = .ok (.iload_n 2, 1) := by decide +kernel
theorem dd_C_testAt_39 : decode bb_C_testAt 39 = .ok (.tableswitch 58 0 4 #[33, 38, 43, 48, 53], 33) := by decide +kernel
theorem dd_C_testAt_72 : decode bb_C_testAt 72 = .ok (.aload_n 3, 1) := by decide +kernel
theorem dd_C_testAt_73 : decode bb_C_testAt 73 = .ok (.getfield 233, 3) := by decide +kernel
theorem dd_C_testAt_76 : decode bb_C_testAt 76 = .ok (.ireturn, 1) := by decide +kernel
theorem dd_C_testAt_77 : decode bb_C_testAt 77 = .ok (.aload_n 3, 1) := by decide +kernel
theorem dd_C_testAt_78 : decode bb_C_testAt 78 = .ok (.getfield 236, 3) := by decide +kernel
theorem dd_C_testAt_81 : decode bb_C_testAt 81 = .ok (.ireturn, 1) := by decide +kernel
theorem dd_C_testAt_82 : decode bb_C_testAt 82 = .ok (.aload_n 3, 1) := by decide +kernel
theorem dd_C_testAt_83 : decode bb_C_testAt 83 = .ok (.getfield 239, 3) := by decide +kernel
theorem dd_C_testAt_86 : decode bb_C_testAt 86 = .ok (.ireturn, 1) := by decide +kernel
theorem dd_C_testAt_87 : decode bb_C_testAt 87 = .ok (.aload_n 3, 1) := by decide +kernel
theorem dd_C_testAt_88 : decode bb_C_testAt 88 = .ok (.getfield 242, 3) := by decide +kernel
theorem dd_C_testAt_91 : decode bb_C_testAt 91 = .ok (.ireturn, 1) := by decide +kernel
theorem dd_C_testAt_92 : decode bb_C_testAt 92 = .ok (.aload_n 3, 1) := by decide +kernel
theorem dd_C_testAt_93 : decode bb_C_testAt 93 = .ok (.getfield 245, 3) := by decide +kernel
theorem dd_C_testAt_96 : decode bb_C_testAt 96 = .ok (.ireturn, 1) := by decide +kernel
theorem dd_C_testAt_97 : decode bb_C_testAt 97 = .ok (.new 54, 3) := by decide +kernel
theorem dd_C_testAt_100 : decode bb_C_testAt 100 = .ok (.dup, 1) := by decide +kernel
theorem dd_C_testAt_101 : decode bb_C_testAt 101 = .ok (.ldc 100, 2) := by decide +kernel
theorem dd_C_testAt_103 : decode bb_C_testAt 103 = .ok (.invokespecial 58, 3) := by decide +kernel
theorem dd_C_testAt_106 : decode bb_C_testAt 106 = .ok (.athrow, 1) := by decide +kernel
theorem dd_C_hydrantAt_0 : decode bb_C_hydrantAt 0 = .ok (.aload_n 0, 1) := by decide +kernel
theorem dd_C_hydrantAt_1 : decode bb_C_hydrantAt 1 = .ok (.iload_n 1, 1) := by decide +kernel
theorem dd_C_hydrantAt_2 : decode bb_C_hydrantAt 2 = .ok (.invokevirtual 76, 3) := by decide +kernel
theorem dd_C_hydrantAt_5 : decode bb_C_hydrantAt 5 = .ok (.astore_n 3, 1) := by decide +kernel
theorem dd_C_hydrantAt_6 : decode bb_C_hydrantAt 6 = .ok (.iload_n 2, 1) := by decide +kernel
theorem dd_C_hydrantAt_7 : decode bb_C_hydrantAt 7 = .ok (.tableswitch 67 0 5 #[37, 42, 47, 52, 57, 62], 37) := by decide +kernel
theorem dd_C_hydrantAt_44 : decode bb_C_hydrantAt 44 = .ok (.aload_n 3, 1) := by decide +kernel
theorem dd_C_hydrantAt_45 : decode bb_C_hydrantAt 45 = .ok (.getfield 188, 3) := by decide +kernel
theorem dd_C_hydrantAt_48 : decode bb_C_hydrantAt 48 = .ok (.ireturn, 1) := by decide +kernel
theorem dd_C_hydrantAt_49 : decode bb_C_hydrantAt 49 = .ok (.aload_n 3, 1) := by decide +kernel
theorem dd_C_hydrantAt_50 : decode bb_C_hydrantAt 50 = .ok (.getfield 155, 3) := by decide +kernel
theorem dd_C_hydrantAt_53 : decode bb_C_hydrantAt 53 = .ok (.ireturn, 1) := by decide +kernel
theorem dd_C_hydrantAt_54 : decode bb_C_hydrantAt 54 = .ok (.aload_n 3, 1) := by decide +kernel
theorem dd_C_hydrantAt_55 : decode bb_C_hydrantAt 55 = .ok (.getfield 137, 3) := by decide +kernel
theorem dd_C_hydrantAt_58 : decode bb_C_hydrantAt 58 = .ok (.ireturn, 1) := by decide +kernel
theorem dd_C_hydrantAt_59 : decode bb_C_hydrantAt 59 = .ok (.aload_n 3, 1) := by decide +kernel
theorem dd_C_hydrantAt_60 : decode bb_C_hydrantAt 60 = .ok (.invokevirtual 248, 3) := by decide +kernel
theorem dd_C_hydrantAt_63 : decode bb_C_hydrantAt 63 = .ok (.ireturn, 1) := by decide +kernel
theorem dd_C_hydrantAt_64 : decode bb_C_hydrantAt 64 = .ok (.aload_n 3, 1) := by decide +kernel
theorem dd_C_hydrantAt_65 : decode bb_C_hydrantAt 65 = .ok (.getfield 251, 3) := by decide +kernel
theorem dd_C_hydrantAt_68 : decode bb_C_hydrantAt 68 = .ok (.ireturn, 1) := by decide +kernel
theorem dd_C_hydrantAt_69 : decode bb_C_hydrantAt 69 = .ok (.aload_n 3, 1) := by decide +kernel
theorem dd_C_hydrantAt_70 : decode bb_C_hydrantAt 70 = .ok (.getfield 252, 3) := by decide +kernel
theorem dd_C_hydrantAt_73 : decode bb_C_hydrantAt 73 = .ok (.ireturn, 1) := by decide +kernel
theorem dd_C_hydrantAt_74 : decode bb_C_hydrantAt 74 = .ok (.new 54, 3) := by decide +kernel
theorem dd_C_hydrantAt_77 : decode bb_C_hydrantAt 77 = .ok (.dup, 1) := by decide +kernel
theorem dd_C_hydrantAt_78 : decode bb_C_hydrantAt 78 = .ok (.ldc 100, 2) := by decide +kernel
theorem dd_C_hydrantAt_80 : decode bb_C_hydrantAt 80 = .ok (.invokespecial 58, 3) := by decide +kernel
theorem dd_C_hydrantAt_83 : decode bb_C_hydrantAt 83 = .ok (.athrow, 1) := by decide +kernel
theorem dd_C_known_0 : decode bb_C_known 0 = .ok (.iload_n 1, 1) := by decide +kernel
theorem dd_C_known_1 : decode bb_C_known 1 = .ok (.ifCond .lt 21, 3) := by decide +kernel
theorem dd_C_known_4 : decode bb_C_known 4 = .ok (.iload_n 1, 1) := by decide +kernel
theorem dd_C_known_5 : decode bb_C_known 5 = .ok (.aload_n 0, 1) := by decide +kernel
theorem dd_C_known_6 : decode bb_C_known 6 = .ok (.getfield 11, 3) := by decide +kernel
theorem dd_C_known_9 : decode bb_C_known 9 = .ok (.arraylength, 1) := by decide +kernel
theorem dd_C_known_10 : decode bb_C_known 10 = .ok (.if_icmp .ge 12, 3) := by decide +kernel
theorem dd_C_known_13 : decode bb_C_known 13 = .ok (.aload_n 0, 1) := by decide +kernel
theorem dd_C_known_14 : decode bb_C_known 14 = .ok (.getfield 11, 3) := by decide +kernel
theorem dd_C_known_17 : decode bb_C_known 17 = .ok (.iload_n 1, 1) := by decide +kernel
theorem dd_C_known_18 : decode bb_C_known 18 = .ok (.aaload, 1) := by decide +kernel
theorem dd_C_known_19 : decode bb_C_known 19 = .ok (.goto 4, 3) := by decide +kernel
theorem dd_C_known_22 : decode bb_C_known 22 = .ok (.aconst_null, 1) := by decide +kernel
theorem dd_C_known_23 : decode bb_C_known 23 = .ok (.astore_n 2, 1) := by decide +kernel
theorem dd_C_known_24 : decode bb_C_known 24 = .ok (.aload_n 2, 1) := by decide +kernel
theorem dd_C_known_25 : decode bb_C_known 25 = .ok (.ifnonnull 13, 3) := by decide +kernel
theorem dd_C_known_28 : decode bb_C_known 28 = .ok (.new 54, 3) := by decide +kernel
theorem dd_C_known_31 : decode bb_C_known 31 = .ok (.dup, 1) := by decide +kernel
theorem dd_C_known_32 : decode bb_C_known 32 = .ok (.ldc 255, 2) := by decide +kernel
theorem dd_C_known_34 : decode bb_C_known 34 = .ok (.invokespecial 58, 3) := by decide +kernel
theorem dd_C_known_37 : decode bb_C_known 37 = .ok (.athrow, 1) := by decide +kernel
theorem dd_C_known_38 : decode bb_C_known 38 = .ok (.aload_n 2, 1) := by decide +kernel
theorem dd_C_known_39 : decode bb_C_known 39 = .ok (.areturn, 1) := by decide +kernel
theorem dd_C_countingTest_0 : decode bb_C_countingTest 0 = .ok (.aload_n 0, 1) := by decide +kernel
theorem dd_C_countingTest_1 : decode bb_C_countingTest 1 = .ok (.getfield 257, 3) := by decide +kernel
theorem dd_C_countingTest_4 : decode bb_C_countingTest 4 = .ok (.astore_n 1, 1) := by decide +kernel
theorem dd_C_countingTest_5 : decode bb_C_countingTest 5 = .ok (.aload_n 1, 1) := by decide +kernel
theorem dd_C_countingTest_6 : decode bb_C_countingTest 6 = .ok (.ifnonnull 14, 3) := by decide +kernel
theorem dd_C_countingTest_9 : decode bb_C_countingTest 9 = .ok (.new 86, 3) := by decide +kernel
theorem dd_C_countingTest_12 : decode bb_C_countingTest 12 = .ok (.dup, 1) := by decide +kernel
theorem dd_C_countingTest_13 : decode bb_C_countingTest 13 = .ok (.ldc_w 261, 3) := by decide +kernel
theorem dd_C_countingTest_16 : decode bb_C_countingTest 16 = .ok (.invokespecial 90, 3) := by decide +kernel
theorem dd_C_countingTest_19 : decode bb_C_countingTest 19 = .ok (.athrow, 1) := by decide +kernel
theorem dd_C_countingTest_20 : decode bb_C_countingTest 20 = .ok (.aload_n 1, 1) := by decide +kernel
theorem dd_C_countingTest_21 : decode bb_C_countingTest 21 = .ok (.areturn, 1) := by decide +kernel
theorem dd_C_needTold_0 : decode bb_C_needTold 0 = .ok (.aload_n 0, 1) := by decide +kernel
theorem dd_C_needTold_1 : decode bb_C_needTold 1 = .ok (.iload_n 1, 1) := by decide +kernel
theorem dd_C_needTold_2 : decode bb_C_needTold 2 = .ok (.invokevirtual 263, 3) := by decide +kernel
theorem dd_C_needTold_5 : decode bb_C_needTold 5 = .ok (.ifCond .ne 14, 3) := by decide +kernel
theorem dd_C_needTold_8 : decode bb_C_needTold 8 = .ok (.new 267, 3) := by decide +kernel
theorem dd_C_needTold_11 : decode bb_C_needTold 11 = .ok (.dup, 1) := by decide +kernel
theorem dd_C_needTold_12 : decode bb_C_needTold 12 = .ok (.ldc_w 269, 3) := by decide +kernel
theorem dd_C_needTold_15 : decode bb_C_needTold 15 = .ok (.invokespecial 271, 3) := by decide +kernel
theorem dd_C_needTold_18 : decode bb_C_needTold 18 = .ok (.athrow, 1) := by decide +kernel
theorem dd_C_needTold_19 : decode bb_C_needTold 19 = .ok (.return_, 1) := by decide +kernel
theorem dd_C_needMain_0 : decode bb_C_needMain 0 = .ok (.iload_n 1, 1) := by decide +kernel
theorem dd_C_needMain_1 : decode bb_C_needMain 1 = .ok (.ifCond .lt 12, 3) := by decide +kernel
theorem dd_C_needMain_4 : decode bb_C_needMain 4 = .ok (.iload_n 1, 1) := by decide +kernel
theorem dd_C_needMain_5 : decode bb_C_needMain 5 = .ok (.aload_n 0, 1) := by decide +kernel
theorem dd_C_needMain_6 : decode bb_C_needMain 6 = .ok (.getfield 21, 3) := by decide +kernel
theorem dd_C_needMain_9 : decode bb_C_needMain 9 = .ok (.arraylength, 1) := by decide +kernel
theorem dd_C_needMain_10 : decode bb_C_needMain 10 = .ok (.if_icmp .lt 14, 3) := by decide +kernel
theorem dd_C_needMain_13 : decode bb_C_needMain 13 = .ok (.new 54, 3) := by decide +kernel
theorem dd_C_needMain_16 : decode bb_C_needMain 16 = .ok (.dup, 1) := by decide +kernel
theorem dd_C_needMain_17 : decode bb_C_needMain 17 = .ok (.ldc_w 272, 3) := by decide +kernel
theorem dd_C_needMain_20 : decode bb_C_needMain 20 = .ok (.invokespecial 58, 3) := by decide +kernel
theorem dd_C_needMain_23 : decode bb_C_needMain 23 = .ok (.athrow, 1) := by decide +kernel
theorem dd_C_needMain_24 : decode bb_C_needMain 24 = .ok (.return_, 1) := by decide +kernel
theorem dd_C_needPlace_0 : decode bb_C_needPlace 0 = .ok (.iload_n 0, 1) := by decide +kernel
theorem dd_C_needPlace_1 : decode bb_C_needPlace 1 = .ok (.ldc_w 274, 3) := by decide +kernel
theorem dd_C_needPlace_4 : decode bb_C_needPlace 4 = .ok (.if_icmp .lt 24, 3) := by decide +kernel
theorem dd_C_needPlace_7 : decode bb_C_needPlace 7 = .ok (.iload_n 0, 1) := by decide +kernel
theorem dd_C_needPlace_8 : decode bb_C_needPlace 8 = .ok (.ldc_w 275, 3) := by decide +kernel
theorem dd_C_needPlace_11 : decode bb_C_needPlace 11 = .ok (.if_icmp .gt 17, 3) := by decide +kernel
theorem dd_C_needPlace_14 : decode bb_C_needPlace 14 = .ok (.iload_n 1, 1) := by decide +kernel
theorem dd_C_needPlace_15 : decode bb_C_needPlace 15 = .ok (.ldc_w 274, 3) := by decide +kernel
theorem dd_C_needPlace_18 : decode bb_C_needPlace 18 = .ok (.if_icmp .lt 10, 3) := by decide +kernel
theorem dd_C_needPlace_21 : decode bb_C_needPlace 21 = .ok (.iload_n 1, 1) := by decide +kernel
theorem dd_C_needPlace_22 : decode bb_C_needPlace 22 = .ok (.ldc_w 275, 3) := by decide +kernel
theorem dd_C_needPlace_25 : decode bb_C_needPlace 25 = .ok (.if_icmp .le 14, 3) := by decide +kernel
theorem dd_C_needPlace_28 : decode bb_C_needPlace 28 = .ok (.new 132, 3) := by decide +kernel
theorem dd_C_needPlace_31 : decode bb_C_needPlace 31 = .ok (.dup, 1) := by decide +kernel
theorem dd_C_needPlace_32 : decode bb_C_needPlace 32 = .ok (.ldc_w 276, 3) := by decide +kernel
theorem dd_C_needPlace_35 : decode bb_C_needPlace 35 = .ok (.invokespecial 136, 3) := by decide +kernel
theorem dd_C_needPlace_38 : decode bb_C_needPlace 38 = .ok (.athrow, 1) := by decide +kernel
theorem dd_C_needPlace_39 : decode bb_C_needPlace 39 = .ok (.return_, 1) := by decide +kernel
theorem dd_C_needDay_0 : decode bb_C_needDay 0 = .ok (.iload_n 0, 1) := by decide +kernel
theorem dd_C_needDay_1 : decode bb_C_needDay 1 = .ok (.ifCond .lt 10, 3) := by decide +kernel
theorem dd_C_needDay_4 : decode bb_C_needDay 4 = .ok (.iload_n 0, 1) := by decide +kernel
theorem dd_C_needDay_5 : decode bb_C_needDay 5 = .ok (.ldc_w 278, 3) := by decide +kernel
theorem dd_C_needDay_8 : decode bb_C_needDay 8 = .ok (.if_icmp .le 14, 3) := by decide +kernel
theorem dd_C_needDay_11 : decode bb_C_needDay 11 = .ok (.new 132, 3) := by decide +kernel
theorem dd_C_needDay_14 : decode bb_C_needDay 14 = .ok (.dup, 1) := by decide +kernel
theorem dd_C_needDay_15 : decode bb_C_needDay 15 = .ok (.ldc_w 279, 3) := by decide +kernel
theorem dd_C_needDay_18 : decode bb_C_needDay 18 = .ok (.invokespecial 136, 3) := by decide +kernel
theorem dd_C_needDay_21 : decode bb_C_needDay 21 = .ok (.athrow, 1) := by decide +kernel
theorem dd_C_needDay_22 : decode bb_C_needDay 22 = .ok (.return_, 1) := by decide +kernel
theorem dd_C_needPressure_0 : decode bb_C_needPressure 0 = .ok (.iload_n 0, 1) := by decide +kernel
theorem dd_C_needPressure_1 : decode bb_C_needPressure 1 = .ok (.ifCond .lt 10, 3) := by decide +kernel
theorem dd_C_needPressure_4 : decode bb_C_needPressure 4 = .ok (.iload_n 0, 1) := by decide +kernel
theorem dd_C_needPressure_5 : decode bb_C_needPressure 5 = .ok (.sipush 2000, 3) := by decide +kernel
theorem dd_C_needPressure_8 : decode bb_C_needPressure 8 = .ok (.if_icmp .le 14, 3) := by decide +kernel
theorem dd_C_needPressure_11 : decode bb_C_needPressure 11 = .ok (.new 132, 3) := by decide +kernel
theorem dd_C_needPressure_14 : decode bb_C_needPressure 14 = .ok (.dup, 1) := by decide +kernel
theorem dd_C_needPressure_15 : decode bb_C_needPressure 15 = .ok (.ldc_w 281, 3) := by decide +kernel
theorem dd_C_needPressure_18 : decode bb_C_needPressure 18 = .ok (.invokespecial 136, 3) := by decide +kernel
theorem dd_C_needPressure_21 : decode bb_C_needPressure 21 = .ok (.athrow, 1) := by decide +kernel
theorem dd_C_needPressure_22 : decode bb_C_needPressure 22 = .ok (.return_, 1) := by decide +kernel
theorem dd_C_needFlow_0 : decode bb_C_needFlow 0 = .ok (.iload_n 0, 1) := by decide +kernel
theorem dd_C_needFlow_1 : decode bb_C_needFlow 1 = .ok (.ifCond .lt 10, 3) := by decide +kernel
theorem dd_C_needFlow_4 : decode bb_C_needFlow 4 = .ok (.iload_n 0, 1) := by decide +kernel
theorem dd_C_needFlow_5 : decode bb_C_needFlow 5 = .ok (.sipush 20000, 3) := by decide +kernel
theorem dd_C_needFlow_8 : decode bb_C_needFlow 8 = .ok (.if_icmp .le 14, 3) := by decide +kernel
theorem dd_C_needFlow_11 : decode bb_C_needFlow 11 = .ok (.new 132, 3) := by decide +kernel
theorem dd_C_needFlow_14 : decode bb_C_needFlow 14 = .ok (.dup, 1) := by decide +kernel
theorem dd_C_needFlow_15 : decode bb_C_needFlow 15 = .ok (.ldc_w 283, 3) := by decide +kernel
theorem dd_C_needFlow_18 : decode bb_C_needFlow 18 = .ok (.invokespecial 136, 3) := by decide +kernel
theorem dd_C_needFlow_21 : decode bb_C_needFlow 21 = .ok (.athrow, 1) := by decide +kernel
theorem dd_C_needFlow_22 : decode bb_C_needFlow 22 = .ok (.return_, 1) := by decide +kernel
theorem dd_C_needNotBelowZero_0 : decode bb_C_needNotBelowZero 0 = .ok (.iload_n 0, 1) := by decide +kernel
theorem dd_C_needNotBelowZero_1 : decode bb_C_needNotBelowZero 1 = .ok (.ifCond .ge 14, 3) := by decide +kernel
theorem dd_C_needNotBelowZero_4 : decode bb_C_needNotBelowZero 4 = .ok (.new 132, 3) := by decide +kernel
theorem dd_C_needNotBelowZero_7 : decode bb_C_needNotBelowZero 7 = .ok (.dup, 1) := by decide +kernel
theorem dd_C_needNotBelowZero_8 : decode bb_C_needNotBelowZero 8 = .ok (.ldc_w 285, 3) := by decide +kernel
theorem dd_C_needNotBelowZero_11 : decode bb_C_needNotBelowZero 11 = .ok (.invokespecial 136, 3) := by decide +kernel
theorem dd_C_needNotBelowZero_14 : decode bb_C_needNotBelowZero 14 = .ok (.athrow, 1) := by decide +kernel
theorem dd_C_needNotBelowZero_15 : decode bb_C_needNotBelowZero 15 = .ok (.return_, 1) := by decide +kernel
theorem dd_C_limitOf_0 : decode bb_C_limitOf 0 = .ok (.iload_n 1, 1) := by decide +kernel
theorem dd_C_limitOf_1 : decode bb_C_limitOf 1 = .ok (.ifCond .lt 21, 3) := by decide +kernel
theorem dd_C_limitOf_4 : decode bb_C_limitOf 4 = .ok (.iload_n 1, 1) := by decide +kernel
theorem dd_C_limitOf_5 : decode bb_C_limitOf 5 = .ok (.aload_n 0, 1) := by decide +kernel
theorem dd_C_limitOf_6 : decode bb_C_limitOf 6 = .ok (.getfield 21, 3) := by decide +kernel
theorem dd_C_limitOf_9 : decode bb_C_limitOf 9 = .ok (.arraylength, 1) := by decide +kernel
theorem dd_C_limitOf_10 : decode bb_C_limitOf 10 = .ok (.if_icmp .ge 12, 3) := by decide +kernel
theorem dd_C_limitOf_13 : decode bb_C_limitOf 13 = .ok (.aload_n 0, 1) := by decide +kernel
theorem dd_C_limitOf_14 : decode bb_C_limitOf 14 = .ok (.getfield 21, 3) := by decide +kernel
theorem dd_C_limitOf_17 : decode bb_C_limitOf 17 = .ok (.iload_n 1, 1) := by decide +kernel
theorem dd_C_limitOf_18 : decode bb_C_limitOf 18 = .ok (.iaload, 1) := by decide +kernel
theorem dd_C_limitOf_19 : decode bb_C_limitOf 19 = .ok (.goto 4, 3) := by decide +kernel
theorem dd_C_limitOf_22 : decode bb_C_limitOf 22 = .ok (.iconst 0, 1) := by decide +kernel
theorem dd_C_limitOf_23 : decode bb_C_limitOf 23 = .ok (.ireturn, 1) := by decide +kernel
theorem dd_C_supplyOfMain_0 : decode bb_C_supplyOfMain 0 = .ok (.iconst 0, 1) := by decide +kernel
theorem dd_C_supplyOfMain_1 : decode bb_C_supplyOfMain 1 = .ok (.istore 7, 2) := by decide +kernel
theorem dd_C_supplyOfMain_3 : decode bb_C_supplyOfMain 3 = .ok (.aload_n 0, 1) := by decide +kernel
theorem dd_C_supplyOfMain_4 : decode bb_C_supplyOfMain 4 = .ok (.getfield 11, 3) := by decide +kernel
theorem dd_C_supplyOfMain_7 : decode bb_C_supplyOfMain 7 = .ok (.astore 8, 2) := by decide +kernel
theorem dd_C_supplyOfMain_9 : decode bb_C_supplyOfMain 9 = .ok (.aload 8, 2) := by decide +kernel
theorem dd_C_supplyOfMain_11 : decode bb_C_supplyOfMain 11 = .ok (.arraylength, 1) := by decide +kernel
theorem dd_C_supplyOfMain_12 : decode bb_C_supplyOfMain 12 = .ok (.istore 9, 2) := by decide +kernel
theorem dd_C_supplyOfMain_14 : decode bb_C_supplyOfMain 14 = .ok (.iconst 0, 1) := by decide +kernel
theorem dd_C_supplyOfMain_15 : decode bb_C_supplyOfMain 15 = .ok (.istore 10, 2) := by decide +kernel
theorem dd_C_supplyOfMain_17 : decode bb_C_supplyOfMain 17 = .ok (.iload 10, 2) := by decide +kernel
theorem dd_C_supplyOfMain_19 : decode bb_C_supplyOfMain 19 = .ok (.iload 9, 2) := by decide +kernel
theorem dd_C_supplyOfMain_21 : decode bb_C_supplyOfMain 21 = .ok (.if_icmp .ge 68, 3) := by decide +kernel
theorem dd_C_supplyOfMain_24 : decode bb_C_supplyOfMain 24 = .ok (.aload 8, 2) := by decide +kernel
theorem dd_C_supplyOfMain_26 : decode bb_C_supplyOfMain 26 = .ok (.iload 10, 2) := by decide +kernel
theorem dd_C_supplyOfMain_28 : decode bb_C_supplyOfMain 28 = .ok (.aaload, 1) := by decide +kernel
theorem dd_C_supplyOfMain_29 : decode bb_C_supplyOfMain 29 = .ok (.astore 11, 2) := by decide +kernel
theorem dd_C_supplyOfMain_31 : decode bb_C_supplyOfMain 31 = .ok (.aload 11, 2) := by decide +kernel
theorem dd_C_supplyOfMain_33 : decode bb_C_supplyOfMain 33 = .ok (.ifnull 50, 3) := by decide +kernel
theorem dd_C_supplyOfMain_36 : decode bb_C_supplyOfMain 36 = .ok (.aload 11, 2) := by decide +kernel
theorem dd_C_supplyOfMain_38 : decode bb_C_supplyOfMain 38 = .ok (.getfield 188, 3) := by decide +kernel
theorem dd_C_supplyOfMain_41 : decode bb_C_supplyOfMain 41 = .ok (.iload_n 1, 1) := by decide +kernel
theorem dd_C_supplyOfMain_42 : decode bb_C_supplyOfMain 42 = .ok (.if_icmp .ne 41, 3) := by decide +kernel
theorem dd_C_supplyOfMain_45 : decode bb_C_supplyOfMain 45 = .ok (.aload 11, 2) := by decide +kernel
theorem dd_C_supplyOfMain_47 : decode bb_C_supplyOfMain 47 = .ok (.iload_n 2, 1) := by decide +kernel
theorem dd_C_supplyOfMain_48 : decode bb_C_supplyOfMain 48 = .ok (.iload_n 3, 1) := by decide +kernel
theorem dd_C_supplyOfMain_49 : decode bb_C_supplyOfMain 49 = .ok (.invokevirtual 174, 3) := by decide +kernel
theorem dd_C_supplyOfMain_52 : decode bb_C_supplyOfMain 52 = .ok (.iload 6, 2) := by decide +kernel
theorem dd_C_supplyOfMain_54 : decode bb_C_supplyOfMain 54 = .ok (.if_icmp .gt 29, 3) := by decide +kernel
theorem dd_C_supplyOfMain_57 : decode bb_C_supplyOfMain 57 = .ok (.aload 11, 2) := by decide +kernel
theorem dd_C_supplyOfMain_59 : decode bb_C_supplyOfMain 59 = .ok (.iload 4, 2) := by decide +kernel
theorem dd_C_supplyOfMain_61 : decode bb_C_supplyOfMain 61 = .ok (.aload_n 0, 1) := by decide +kernel
theorem dd_C_supplyOfMain_62 : decode bb_C_supplyOfMain 62 = .ok (.getfield 46, 3) := by decide +kernel
theorem dd_C_supplyOfMain_65 : decode bb_C_supplyOfMain 65 = .ok (.invokevirtual 164, 3) := by decide +kernel
theorem dd_C_supplyOfMain_68 : decode bb_C_supplyOfMain 68 = .ok (.ifCond .eq 15, 3) := by decide +kernel
theorem dd_C_supplyOfMain_71 : decode bb_C_supplyOfMain 71 = .ok (.iload 7, 2) := by decide +kernel
theorem dd_C_supplyOfMain_73 : decode bb_C_supplyOfMain 73 = .ok (.aload 11, 2) := by decide +kernel
theorem dd_C_supplyOfMain_75 : decode bb_C_supplyOfMain 75 = .ok (.iload 5, 2) := by decide +kernel
theorem dd_C_supplyOfMain_77 : decode bb_C_supplyOfMain 77 = .ok (.invokevirtual 287, 3) := by decide +kernel
theorem dd_C_supplyOfMain_80 : decode bb_C_supplyOfMain 80 = .ok (.iadd, 1) := by decide +kernel
theorem dd_C_supplyOfMain_81 : decode bb_C_supplyOfMain 81 = .ok (.istore 7, 2) := by decide +kernel
theorem dd_C_supplyOfMain_83 : decode bb_C_supplyOfMain 83 = .ok (.iinc 10 1, 3) := by decide +kernel
theorem dd_C_supplyOfMain_86 : decode bb_C_supplyOfMain 86 = .ok (.goto (-69), 3) := by decide +kernel
theorem dd_C_supplyOfMain_89 : decode bb_C_supplyOfMain 89 = .ok (.iload 7, 2) := by decide +kernel
theorem dd_C_supplyOfMain_91 : decode bb_C_supplyOfMain 91 = .ok (.ireturn, 1) := by decide +kernel
theorem dd_C_toldStop_0 : decode bb_C_toldStop 0 = .ok (.lload_n 0, 1) := by decide +kernel
theorem dd_C_toldStop_1 : decode bb_C_toldStop 1 = .ok (.bipush 6, 2) := by decide +kernel
theorem dd_C_toldStop_3 : decode bb_C_toldStop 3 = .ok (.iload_n 2, 1) := by decide +kernel
theorem dd_C_toldStop_4 : decode bb_C_toldStop 4 = .ok (.imul, 1) := by decide +kernel
theorem dd_C_toldStop_5 : decode bb_C_toldStop 5 = .ok (.lushr, 1) := by decide +kernel
theorem dd_C_toldStop_6 : decode bb_C_toldStop 6 = .ok (.ldc2_w 290, 3) := by decide +kernel
theorem dd_C_toldStop_9 : decode bb_C_toldStop 9 = .ok (.land, 1) := by decide +kernel
theorem dd_C_toldStop_10 : decode bb_C_toldStop 10 = .ok (.l2i, 1) := by decide +kernel
theorem dd_C_toldStop_11 : decode bb_C_toldStop 11 = .ok (.ireturn, 1) := by decide +kernel
theorem dd_C_setOfStops_0 : decode bb_C_setOfStops 0 = .ok (.lconst 0, 1) := by decide +kernel
theorem dd_C_setOfStops_1 : decode bb_C_setOfStops 1 = .ok (.lstore_n 3, 1) := by decide +kernel
theorem dd_C_setOfStops_2 : decode bb_C_setOfStops 2 = .ok (.iconst 0, 1) := by decide +kernel
theorem dd_C_setOfStops_3 : decode bb_C_setOfStops 3 = .ok (.istore 5, 2) := by decide +kernel
theorem dd_C_setOfStops_5 : decode bb_C_setOfStops 5 = .ok (.iload 5, 2) := by decide +kernel
theorem dd_C_setOfStops_7 : decode bb_C_setOfStops 7 = .ok (.iload_n 2, 1) := by decide +kernel
theorem dd_C_setOfStops_8 : decode bb_C_setOfStops 8 = .ok (.if_icmp .ge 44, 3) := by decide +kernel
theorem dd_C_setOfStops_11 : decode bb_C_setOfStops 11 = .ok (.lconst 1, 1) := by decide +kernel
theorem dd_C_setOfStops_12 : decode bb_C_setOfStops 12 = .ok (.lload_n 0, 1) := by decide +kernel
theorem dd_C_setOfStops_13 : decode bb_C_setOfStops 13 = .ok (.iload 5, 2) := by decide +kernel
theorem dd_C_setOfStops_15 : decode bb_C_setOfStops 15 = .ok (.invokestatic 201, 3) := by decide +kernel
theorem dd_C_setOfStops_18 : decode bb_C_setOfStops 18 = .ok (.lshl, 1) := by decide +kernel
theorem dd_C_setOfStops_19 : decode bb_C_setOfStops 19 = .ok (.lstore 6, 2) := by decide +kernel
theorem dd_C_setOfStops_21 : decode bb_C_setOfStops 21 = .ok (.lload_n 3, 1) := by decide +kernel
theorem dd_C_setOfStops_22 : decode bb_C_setOfStops 22 = .ok (.lload 6, 2) := by decide +kernel
theorem dd_C_setOfStops_24 : decode bb_C_setOfStops 24 = .ok (.land, 1) := by decide +kernel
theorem dd_C_setOfStops_25 : decode bb_C_setOfStops 25 = .ok (.lconst 0, 1) := by decide +kernel
theorem dd_C_setOfStops_26 : decode bb_C_setOfStops 26 = .ok (.lcmp, 1) := by decide +kernel
theorem dd_C_setOfStops_27 : decode bb_C_setOfStops 27 = .ok (.ifCond .eq 14, 3) := by decide +kernel
theorem dd_C_setOfStops_30 : decode bb_C_setOfStops 30 = .ok (.new 132, 3) := by decide +kernel
theorem dd_C_setOfStops_33 : decode bb_C_setOfStops 33 = .ok (.dup, 1) := by decide +kernel
theorem dd_C_setOfStops_34 : decode bb_C_setOfStops 34 = .ok (.ldc_w 292, 3) := by decide +kernel
theorem dd_C_setOfStops_37 : decode bb_C_setOfStops 37 = .ok (.invokespecial 136, 3) := by decide +kernel
theorem dd_C_setOfStops_40 : decode bb_C_setOfStops 40 = .ok (.athrow, 1) := by decide +kernel
theorem dd_C_setOfStops_41 : decode bb_C_setOfStops 41 = .ok (.lload_n 3, 1) := by decide +kernel
theorem dd_C_setOfStops_42 : decode bb_C_setOfStops 42 = .ok (.lload 6, 2) := by decide +kernel
theorem dd_C_setOfStops_44 : decode bb_C_setOfStops 44 = .ok (.lor, 1) := by decide +kernel
theorem dd_C_setOfStops_45 : decode bb_C_setOfStops 45 = .ok (.lstore_n 3, 1) := by decide +kernel
theorem dd_C_setOfStops_46 : decode bb_C_setOfStops 46 = .ok (.iinc 5 1, 3) := by decide +kernel
theorem dd_C_setOfStops_49 : decode bb_C_setOfStops 49 = .ok (.goto (-44), 3) := by decide +kernel
theorem dd_C_setOfStops_52 : decode bb_C_setOfStops 52 = .ok (.lload_n 3, 1) := by decide +kernel
theorem dd_C_setOfStops_53 : decode bb_C_setOfStops 53 = .ok (.lreturn, 1) := by decide +kernel
theorem dd_C_commonDivisor_0 : decode bb_C_commonDivisor 0 = .ok (.iload_n 0, 1) := by decide +kernel
theorem dd_C_commonDivisor_1 : decode bb_C_commonDivisor 1 = .ok (.istore_n 2, 1) := by decide +kernel
theorem dd_C_commonDivisor_2 : decode bb_C_commonDivisor 2 = .ok (.iload_n 1, 1) := by decide +kernel
theorem dd_C_commonDivisor_3 : decode bb_C_commonDivisor 3 = .ok (.istore_n 3, 1) := by decide +kernel
theorem dd_C_commonDivisor_4 : decode bb_C_commonDivisor 4 = .ok (.iconst 0, 1) := by decide +kernel
theorem dd_C_commonDivisor_5 : decode bb_C_commonDivisor 5 = .ok (.istore 4, 2) := by decide +kernel
theorem dd_C_commonDivisor_7 : decode bb_C_commonDivisor 7 = .ok (.iload 4, 2) := by decide +kernel
theorem dd_C_commonDivisor_9 : decode bb_C_commonDivisor 9 = .ok (.bipush 64, 2) := by decide +kernel
theorem dd_C_commonDivisor_11 : decode bb_C_commonDivisor 11 = .ok (.if_icmp .ge 23, 3) := by decide +kernel
theorem dd_C_commonDivisor_14 : decode bb_C_commonDivisor 14 = .ok (.iload_n 3, 1) := by decide +kernel
theorem dd_C_commonDivisor_15 : decode bb_C_commonDivisor 15 = .ok (.ifCond .eq 19, 3) := by decide +kernel
theorem dd_C_commonDivisor_18 : decode bb_C_commonDivisor 18 = .ok (.iload_n 2, 1) := by decide +kernel
theorem dd_C_commonDivisor_19 : decode bb_C_commonDivisor 19 = .ok (.iload_n 3, 1) := by decide +kernel
theorem dd_C_commonDivisor_20 : decode bb_C_commonDivisor 20 = .ok (.irem, 1) := by decide +kernel
theorem dd_C_commonDivisor_21 : decode bb_C_commonDivisor 21 = .ok (.istore 5, 2) := by decide +kernel
theorem dd_C_commonDivisor_23 : decode bb_C_commonDivisor 23 = .ok (.iload_n 3, 1) := by decide +kernel
theorem dd_C_commonDivisor_24 : decode bb_C_commonDivisor 24 = .ok (.istore_n 2, 1) := by decide +kernel
theorem dd_C_commonDivisor_25 : decode bb_C_commonDivisor 25 = .ok (.iload 5, 2) := by decide +kernel
theorem dd_C_commonDivisor_27 : decode bb_C_commonDivisor 27 = .ok (.istore_n 3, 1) := by decide +kernel
theorem dd_C_commonDivisor_28 : decode bb_C_commonDivisor 28 = .ok (.iinc 4 1, 3) := by decide +kernel
theorem dd_C_commonDivisor_31 : decode bb_C_commonDivisor 31 = .ok (.goto (-24), 3) := by decide +kernel
theorem dd_C_commonDivisor_34 : decode bb_C_commonDivisor 34 = .ok (.iload_n 2, 1) := by decide +kernel
theorem dd_C_commonDivisor_35 : decode bb_C_commonDivisor 35 = .ok (.ireturn, 1) := by decide +kernel
theorem dd_C_hoseLength_0 : decode bb_C_hoseLength 0 = .ok (.iload_n 0, 1) := by decide +kernel
theorem dd_C_hoseLength_1 : decode bb_C_hoseLength 1 = .ok (.iload_n 2, 1) := by decide +kernel
theorem dd_C_hoseLength_2 : decode bb_C_hoseLength 2 = .ok (.isub, 1) := by decide +kernel
theorem dd_C_hoseLength_3 : decode bb_C_hoseLength 3 = .ok (.invokestatic 294, 3) := by decide +kernel
theorem dd_C_hoseLength_6 : decode bb_C_hoseLength 6 = .ok (.iload_n 1, 1) := by decide +kernel
theorem dd_C_hoseLength_7 : decode bb_C_hoseLength 7 = .ok (.iload_n 3, 1) := by decide +kernel
theorem dd_C_hoseLength_8 : decode bb_C_hoseLength 8 = .ok (.isub, 1) := by decide +kernel
theorem dd_C_hoseLength_9 : decode bb_C_hoseLength 9 = .ok (.invokestatic 294, 3) := by decide +kernel
theorem dd_C_hoseLength_12 : decode bb_C_hoseLength 12 = .ok (.iadd, 1) := by decide +kernel
theorem dd_C_hoseLength_13 : decode bb_C_hoseLength 13 = .ok (.ireturn, 1) := by decide +kernel
theorem dd_H_init_0 : decode bb_H_init 0 = .ok (.aload_n 0, 1) := by decide +kernel
theorem dd_H_init_1 : decode bb_H_init 1 = .ok (.invokespecial 3, 3) := by decide +kernel
theorem dd_H_init_4 : decode bb_H_init 4 = .ok (.aload_n 0, 1) := by decide +kernel
theorem dd_H_init_5 : decode bb_H_init 5 = .ok (.iconst 3, 1) := by decide +kernel
theorem dd_H_init_6 : decode bb_H_init 6 = .ok (.anewarray 9, 3) := by decide +kernel
theorem dd_H_init_9 : decode bb_H_init 9 = .ok (.putfield 11, 3) := by decide +kernel
theorem dd_H_init_12 : decode bb_H_init 12 = .ok (.aload_n 0, 1) := by decide +kernel
theorem dd_H_init_13 : decode bb_H_init 13 = .ok (.iconst 0, 1) := by decide +kernel
theorem dd_H_init_14 : decode bb_H_init 14 = .ok (.putfield 17, 3) := by decide +kernel
theorem dd_H_init_17 : decode bb_H_init 17 = .ok (.aload_n 0, 1) := by decide +kernel
theorem dd_H_init_18 : decode bb_H_init 18 = .ok (.iconst 0, 1) := by decide +kernel
theorem dd_H_init_19 : decode bb_H_init 19 = .ok (.putfield 21, 3) := by decide +kernel
theorem dd_H_init_22 : decode bb_H_init 22 = .ok (.aload_n 0, 1) := by decide +kernel
theorem dd_H_init_23 : decode bb_H_init 23 = .ok (.iconst 0, 1) := by decide +kernel
theorem dd_H_init_24 : decode bb_H_init 24 = .ok (.putfield 24, 3) := by decide +kernel
theorem dd_H_init_27 : decode bb_H_init 27 = .ok (.aload_n 0, 1) := by decide +kernel
theorem dd_H_init_28 : decode bb_H_init 28 = .ok (.iconst 0, 1) := by decide +kernel
theorem dd_H_init_29 : decode bb_H_init 29 = .ok (.putfield 27, 3) := by decide +kernel
theorem dd_H_init_32 : decode bb_H_init 32 = .ok (.aload_n 0, 1) := by decide +kernel
theorem dd_H_init_33 : decode bb_H_init 33 = .ok (.aconst_null, 1) := by decide +kernel
theorem dd_H_init_34 : decode bb_H_init 34 = .ok (.putfield 30, 3) := by decide +kernel
theorem dd_H_init_37 : decode bb_H_init 37 = .ok (.aload_n 0, 1) := by decide +kernel
theorem dd_H_init_38 : decode bb_H_init 38 = .ok (.iload_n 1, 1) := by decide +kernel
theorem dd_H_init_39 : decode bb_H_init 39 = .ok (.putfield 34, 3) := by decide +kernel
theorem dd_H_init_42 : decode bb_H_init 42 = .ok (.aload_n 0, 1) := by decide +kernel
theorem dd_H_init_43 : decode bb_H_init 43 = .ok (.iload_n 2, 1) := by decide +kernel
theorem dd_H_init_44 : decode bb_H_init 44 = .ok (.putfield 37, 3) := by decide +kernel
theorem dd_H_init_47 : decode bb_H_init 47 = .ok (.aload_n 0, 1) := by decide +kernel
theorem dd_H_init_48 : decode bb_H_init 48 = .ok (.iload_n 3, 1) := by decide +kernel
theorem dd_H_init_49 : decode bb_H_init 49 = .ok (.putfield 40, 3) := by decide +kernel
theorem dd_H_init_52 : decode bb_H_init 52 = .ok (.aload_n 0, 1) := by decide +kernel
theorem dd_H_init_53 : decode bb_H_init 53 = .ok (.iload 4, 2) := by decide +kernel
theorem dd_H_init_55 : decode bb_H_init 55 = .ok (.putfield 43, 3) := by decide +kernel
theorem dd_H_init_58 : decode bb_H_init 58 = .ok (.aload_n 0, 1) := by decide +kernel
theorem dd_H_init_59 : decode bb_H_init 59 = .ok (.iload 5, 2) := by decide +kernel
theorem dd_H_init_61 : decode bb_H_init 61 = .ok (.putfield 46, 3) := by decide +kernel
theorem dd_H_init_64 : decode bb_H_init 64 = .ok (.return_, 1) := by decide +kernel
theorem dd_H_take_0 : decode bb_H_take 0 = .ok (.aload_n 0, 1) := by decide +kernel
theorem dd_H_take_1 : decode bb_H_take 1 = .ok (.dup, 1) := by decide +kernel
theorem dd_H_take_2 : decode bb_H_take 2 = .ok (.getfield 27, 3) := by decide +kernel
theorem dd_H_take_5 : decode bb_H_take 5 = .ok (.iconst 1, 1) := by decide +kernel
theorem dd_H_take_6 : decode bb_H_take 6 = .ok (.iadd, 1) := by decide +kernel
theorem dd_H_take_7 : decode bb_H_take 7 = .ok (.putfield 27, 3) := by decide +kernel
theorem dd_H_take_10 : decode bb_H_take 10 = .ok (.aload_n 0, 1) := by decide +kernel
theorem dd_H_take_11 : decode bb_H_take 11 = .ok (.getfield 30, 3) := by decide +kernel
theorem dd_H_take_14 : decode bb_H_take 14 = .ok (.ifnull 17, 3) := by decide +kernel
theorem dd_H_take_17 : decode bb_H_take 17 = .ok (.aload_n 1, 1) := by decide +kernel
theorem dd_H_take_18 : decode bb_H_take 18 = .ok (.getfield 49, 3) := by decide +kernel
theorem dd_H_take_21 : decode bb_H_take 21 = .ok (.aload_n 0, 1) := by decide +kernel
theorem dd_H_take_22 : decode bb_H_take 22 = .ok (.getfield 30, 3) := by decide +kernel
theorem dd_H_take_25 : decode bb_H_take 25 = .ok (.getfield 49, 3) := by decide +kernel
theorem dd_H_take_28 : decode bb_H_take 28 = .ok (.if_icmp .lt 8, 3) := by decide +kernel
theorem dd_H_take_31 : decode bb_H_take 31 = .ok (.aload_n 0, 1) := by decide +kernel
theorem dd_H_take_32 : decode bb_H_take 32 = .ok (.aload_n 1, 1) := by decide +kernel
theorem dd_H_take_33 : decode bb_H_take 33 = .ok (.putfield 30, 3) := by decide +kernel
theorem dd_H_take_36 : decode bb_H_take 36 = .ok (.return_, 1) := by decide +kernel
theorem dd_H_countingNumber_0 : decode bb_H_countingNumber 0 = .ok (.aload_n 0, 1) := by decide +kernel
theorem dd_H_countingNumber_1 : decode bb_H_countingNumber 1 = .ok (.getfield 30, 3) := by decide +kernel
theorem dd_H_countingNumber_4 : decode bb_H_countingNumber 4 = .ok (.ifnonnull 7, 3) := by decide +kernel
theorem dd_H_countingNumber_7 : decode bb_H_countingNumber 7 = .ok (.iconst (-1), 1) := by decide +kernel
theorem dd_H_countingNumber_8 : decode bb_H_countingNumber 8 = .ok (.goto 10, 3) := by decide +kernel
theorem dd_H_countingNumber_11 : decode bb_H_countingNumber 11 = .ok (.aload_n 0, 1) := by decide +kernel
theorem dd_H_countingNumber_12 : decode bb_H_countingNumber 12 = .ok (.getfield 30, 3) := by decide +kernel
theorem dd_H_countingNumber_15 : decode bb_H_countingNumber 15 = .ok (.getfield 54, 3) := by decide +kernel
theorem dd_H_countingNumber_18 : decode bb_H_countingNumber 18 = .ok (.ireturn, 1) := by decide +kernel
theorem dd_H_hasWorksWithin_0 : decode bb_H_hasWorksWithin 0 = .ok (.aload_n 0, 1) := by decide +kernel
theorem dd_H_hasWorksWithin_1 : decode bb_H_hasWorksWithin 1 = .ok (.getfield 11, 3) := by decide +kernel
theorem dd_H_hasWorksWithin_4 : decode bb_H_hasWorksWithin 4 = .ok (.astore_n 3, 1) := by decide +kernel
theorem dd_H_hasWorksWithin_5 : decode bb_H_hasWorksWithin 5 = .ok (.aload_n 3, 1) := by decide +kernel
theorem dd_H_hasWorksWithin_6 : decode bb_H_hasWorksWithin 6 = .ok (.arraylength, 1) := by decide +kernel
theorem dd_H_hasWorksWithin_7 : decode bb_H_hasWorksWithin 7 = .ok (.istore 4, 2) := by decide +kernel
theorem dd_H_hasWorksWithin_9 : decode bb_H_hasWorksWithin 9 = .ok (.iconst 0, 1) := by decide +kernel
theorem dd_H_hasWorksWithin_10 : decode bb_H_hasWorksWithin 10 = .ok (.istore 5, 2) := by decide +kernel
theorem dd_H_hasWorksWithin_12 : decode bb_H_hasWorksWithin 12 = .ok (.iload 5, 2) := by decide +kernel
theorem dd_H_hasWorksWithin_14 : decode bb_H_hasWorksWithin 14 = .ok (.iload 4, 2) := by decide +kernel
theorem dd_H_hasWorksWithin_16 : decode bb_H_hasWorksWithin 16 = .ok (.if_icmp .ge 32, 3) := by decide +kernel
theorem dd_H_hasWorksWithin_19 : decode bb_H_hasWorksWithin 19 = .ok (.aload_n 3, 1) := by decide +kernel
theorem dd_H_hasWorksWithin_20 : decode bb_H_hasWorksWithin 20 = .ok (.iload 5, 2) := by decide +kernel
theorem dd_H_hasWorksWithin_22 : decode bb_H_hasWorksWithin 22 = .ok (.aaload, 1) := by decide +kernel
theorem dd_H_hasWorksWithin_23 : decode bb_H_hasWorksWithin 23 = .ok (.astore 6, 2) := by decide +kernel
theorem dd_H_hasWorksWithin_25 : decode bb_H_hasWorksWithin 25 = .ok (.aload 6, 2) := by decide +kernel
theorem dd_H_hasWorksWithin_27 : decode bb_H_hasWorksWithin 27 = .ok (.ifnull 15, 3) := by decide +kernel
theorem dd_H_hasWorksWithin_30 : decode bb_H_hasWorksWithin 30 = .ok (.aload 6, 2) := by decide +kernel
theorem dd_H_hasWorksWithin_32 : decode bb_H_hasWorksWithin 32 = .ok (.iload_n 1, 1) := by decide +kernel
theorem dd_H_hasWorksWithin_33 : decode bb_H_hasWorksWithin 33 = .ok (.iload_n 2, 1) := by decide +kernel
theorem dd_H_hasWorksWithin_34 : decode bb_H_hasWorksWithin 34 = .ok (.invokevirtual 55, 3) := by decide +kernel
theorem dd_H_hasWorksWithin_37 : decode bb_H_hasWorksWithin 37 = .ok (.ifCond .eq 5, 3) := by decide +kernel
theorem dd_H_hasWorksWithin_40 : decode bb_H_hasWorksWithin 40 = .ok (.iconst 1, 1) := by decide +kernel
theorem dd_H_hasWorksWithin_41 : decode bb_H_hasWorksWithin 41 = .ok (.ireturn, 1) := by decide +kernel
theorem dd_H_hasWorksWithin_42 : decode bb_H_hasWorksWithin 42 = .ok (.iinc 5 1, 3) := by decide +kernel
theorem dd_H_hasWorksWithin_45 : decode bb_H_hasWorksWithin 45 = .ok (.goto (-33), 3) := by decide +kernel
theorem dd_H_hasWorksWithin_48 : decode bb_H_hasWorksWithin 48 = .ok (.iconst 0, 1) := by decide +kernel
theorem dd_H_hasWorksWithin_49 : decode bb_H_hasWorksWithin 49 = .ok (.ireturn, 1) := by decide +kernel
theorem dd_H_addWorks_0 : decode bb_H_addWorks 0 = .ok (.aload_n 0, 1) := by decide +kernel
theorem dd_H_addWorks_1 : decode bb_H_addWorks 1 = .ok (.getfield 17, 3) := by decide +kernel
theorem dd_H_addWorks_4 : decode bb_H_addWorks 4 = .ok (.ifCond .lt 15, 3) := by decide +kernel
theorem dd_H_addWorks_7 : decode bb_H_addWorks 7 = .ok (.aload_n 0, 1) := by decide +kernel
theorem dd_H_addWorks_8 : decode bb_H_addWorks 8 = .ok (.getfield 17, 3) := by decide +kernel
theorem dd_H_addWorks_11 : decode bb_H_addWorks 11 = .ok (.aload_n 0, 1) := by decide +kernel
theorem dd_H_addWorks_12 : decode bb_H_addWorks 12 = .ok (.getfield 11, 3) := by decide +kernel
theorem dd_H_addWorks_15 : decode bb_H_addWorks 15 = .ok (.arraylength, 1) := by decide +kernel
theorem dd_H_addWorks_16 : decode bb_H_addWorks 16 = .ok (.if_icmp .lt 5, 3) := by decide +kernel
theorem dd_H_addWorks_19 : decode bb_H_addWorks 19 = .ok (.iconst 0, 1) := by decide +kernel
theorem dd_H_addWorks_20 : decode bb_H_addWorks 20 = .ok (.ireturn, 1) := by decide +kernel
theorem dd_H_addWorks_21 : decode bb_H_addWorks 21 = .ok (.aload_n 0, 1) := by decide +kernel
theorem dd_H_addWorks_22 : decode bb_H_addWorks 22 = .ok (.getfield 11, 3) := by decide +kernel
theorem dd_H_addWorks_25 : decode bb_H_addWorks 25 = .ok (.aload_n 0, 1) := by decide +kernel
theorem dd_H_addWorks_26 : decode bb_H_addWorks 26 = .ok (.getfield 17, 3) := by decide +kernel
theorem dd_H_addWorks_29 : decode bb_H_addWorks 29 = .ok (.new 9, 3) := by decide +kernel
theorem dd_H_addWorks_32 : decode bb_H_addWorks 32 = .ok (.dup, 1) := by decide +kernel
theorem dd_H_addWorks_33 : decode bb_H_addWorks 33 = .ok (.iload_n 1, 1) := by decide +kernel
theorem dd_H_addWorks_34 : decode bb_H_addWorks 34 = .ok (.iload_n 2, 1) := by decide +kernel
theorem dd_H_addWorks_35 : decode bb_H_addWorks 35 = .ok (.invokespecial 59, 3) := by decide +kernel
theorem dd_H_addWorks_38 : decode bb_H_addWorks 38 = .ok (.aastore, 1) := by decide +kernel
theorem dd_H_addWorks_39 : decode bb_H_addWorks 39 = .ok (.aload_n 0, 1) := by decide +kernel
theorem dd_H_addWorks_40 : decode bb_H_addWorks 40 = .ok (.dup, 1) := by decide +kernel
theorem dd_H_addWorks_41 : decode bb_H_addWorks 41 = .ok (.getfield 17, 3) := by decide +kernel
theorem dd_H_addWorks_44 : decode bb_H_addWorks 44 = .ok (.iconst 1, 1) := by decide +kernel
theorem dd_H_addWorks_45 : decode bb_H_addWorks 45 = .ok (.iadd, 1) := by decide +kernel
theorem dd_H_addWorks_46 : decode bb_H_addWorks 46 = .ok (.putfield 17, 3) := by decide +kernel
theorem dd_H_addWorks_49 : decode bb_H_addWorks 49 = .ok (.iconst 1, 1) := by decide +kernel
theorem dd_H_addWorks_50 : decode bb_H_addWorks 50 = .ok (.ireturn, 1) := by decide +kernel
theorem dd_H_setDry_0 : decode bb_H_setDry 0 = .ok (.iconst 1, 1) := by decide +kernel
theorem dd_H_setDry_1 : decode bb_H_setDry 1 = .ok (.iload_n 1, 1) := by decide +kernel
theorem dd_H_setDry_2 : decode bb_H_setDry 2 = .ok (.ishl, 1) := by decide +kernel
theorem dd_H_setDry_3 : decode bb_H_setDry 3 = .ok (.istore_n 3, 1) := by decide +kernel
theorem dd_H_setDry_4 : decode bb_H_setDry 4 = .ok (.aload_n 0, 1) := by decide +kernel
theorem dd_H_setDry_5 : decode bb_H_setDry 5 = .ok (.iload_n 2, 1) := by decide +kernel
theorem dd_H_setDry_6 : decode bb_H_setDry 6 = .ok (.ifCond .eq 12, 3) := by decide +kernel
theorem dd_H_setDry_9 : decode bb_H_setDry 9 = .ok (.aload_n 0, 1) := by decide +kernel
theorem dd_H_setDry_10 : decode bb_H_setDry 10 = .ok (.getfield 24, 3) := by decide +kernel
theorem dd_H_setDry_13 : decode bb_H_setDry 13 = .ok (.iload_n 3, 1) := by decide +kernel
theorem dd_H_setDry_14 : decode bb_H_setDry 14 = .ok (.ior, 1) := by decide +kernel
theorem dd_H_setDry_15 : decode bb_H_setDry 15 = .ok (.goto 11, 3) := by decide +kernel
theorem dd_H_setDry_18 : decode bb_H_setDry 18 = .ok (.aload_n 0, 1) := by decide +kernel
theorem dd_H_setDry_19 : decode bb_H_setDry 19 = .ok (.getfield 24, 3) := by decide +kernel
theorem dd_H_setDry_22 : decode bb_H_setDry 22 = .ok (.iload_n 3, 1) := by decide +kernel
theorem dd_H_setDry_23 : decode bb_H_setDry 23 = .ok (.iconst (-1), 1) := by decide +kernel
theorem dd_H_setDry_24 : decode bb_H_setDry 24 = .ok (.ixor, 1) := by decide +kernel
theorem dd_H_setDry_25 : decode bb_H_setDry 25 = .ok (.iand, 1) := by decide +kernel
theorem dd_H_setDry_26 : decode bb_H_setDry 26 = .ok (.putfield 24, 3) := by decide +kernel
theorem dd_H_setDry_29 : decode bb_H_setDry 29 = .ok (.return_, 1) := by decide +kernel
theorem dd_H_isDry_0 : decode bb_H_isDry 0 = .ok (.iload_n 1, 1) := by decide +kernel
theorem dd_H_isDry_1 : decode bb_H_isDry 1 = .ok (.sipush 360, 3) := by decide +kernel
theorem dd_H_isDry_4 : decode bb_H_isDry 4 = .ok (.irem, 1) := by decide +kernel
theorem dd_H_isDry_5 : decode bb_H_isDry 5 = .ok (.bipush 30, 2) := by decide +kernel
theorem dd_H_isDry_7 : decode bb_H_isDry 7 = .ok (.idiv, 1) := by decide +kernel
theorem dd_H_isDry_8 : decode bb_H_isDry 8 = .ok (.istore_n 2, 1) := by decide +kernel
theorem dd_H_isDry_9 : decode bb_H_isDry 9 = .ok (.aload_n 0, 1) := by decide +kernel
theorem dd_H_isDry_10 : decode bb_H_isDry 10 = .ok (.getfield 24, 3) := by decide +kernel
theorem dd_H_isDry_13 : decode bb_H_isDry 13 = .ok (.iload_n 2, 1) := by decide +kernel
theorem dd_H_isDry_14 : decode bb_H_isDry 14 = .ok (.iushr, 1) := by decide +kernel
theorem dd_H_isDry_15 : decode bb_H_isDry 15 = .ok (.iconst 1, 1) := by decide +kernel
theorem dd_H_isDry_16 : decode bb_H_isDry 16 = .ok (.iand, 1) := by decide +kernel
theorem dd_H_isDry_17 : decode bb_H_isDry 17 = .ok (.ifCond .eq 7, 3) := by decide +kernel
theorem dd_H_isDry_20 : decode bb_H_isDry 20 = .ok (.iconst 1, 1) := by decide +kernel
theorem dd_H_isDry_21 : decode bb_H_isDry 21 = .ok (.goto 4, 3) := by decide +kernel
theorem dd_H_isDry_24 : decode bb_H_isDry 24 = .ok (.iconst 0, 1) := by decide +kernel
theorem dd_H_isDry_25 : decode bb_H_isDry 25 = .ok (.ireturn, 1) := by decide +kernel
theorem dd_H_isUsable_0 : decode bb_H_isUsable 0 = .ok (.aload_n 0, 1) := by decide +kernel
theorem dd_H_isUsable_1 : decode bb_H_isUsable 1 = .ok (.getfield 21, 3) := by decide +kernel
theorem dd_H_isUsable_4 : decode bb_H_isUsable 4 = .ok (.iconst 2, 1) := by decide +kernel
theorem dd_H_isUsable_5 : decode bb_H_isUsable 5 = .ok (.if_icmp .eq 36, 3) := by decide +kernel
theorem dd_H_isUsable_8 : decode bb_H_isUsable 8 = .ok (.aload_n 0, 1) := by decide +kernel
theorem dd_H_isUsable_9 : decode bb_H_isUsable 9 = .ok (.getfield 46, 3) := by decide +kernel
theorem dd_H_isUsable_12 : decode bb_H_isUsable 12 = .ok (.iconst 1, 1) := by decide +kernel
theorem dd_H_isUsable_13 : decode bb_H_isUsable 13 = .ok (.if_icmp .ne 7, 3) := by decide +kernel
theorem dd_H_isUsable_16 : decode bb_H_isUsable 16 = .ok (.iload_n 2, 1) := by decide +kernel
theorem dd_H_isUsable_17 : decode bb_H_isUsable 17 = .ok (.ifCond .eq 24, 3) := by decide +kernel
theorem dd_H_isUsable_20 : decode bb_H_isUsable 20 = .ok (.aload_n 0, 1) := by decide +kernel
theorem dd_H_isUsable_21 : decode bb_H_isUsable 21 = .ok (.iload_n 1, 1) := by decide +kernel
theorem dd_H_isUsable_22 : decode bb_H_isUsable 22 = .ok (.invokevirtual 62, 3) := by decide +kernel
theorem dd_H_isUsable_25 : decode bb_H_isUsable 25 = .ok (.ifCond .ne 16, 3) := by decide +kernel
theorem dd_H_isUsable_28 : decode bb_H_isUsable 28 = .ok (.aload_n 0, 1) := by decide +kernel
theorem dd_H_isUsable_29 : decode bb_H_isUsable 29 = .ok (.iload_n 1, 1) := by decide +kernel
theorem dd_H_isUsable_30 : decode bb_H_isUsable 30 = .ok (.iload_n 1, 1) := by decide +kernel
theorem dd_H_isUsable_31 : decode bb_H_isUsable 31 = .ok (.invokevirtual 66, 3) := by decide +kernel
theorem dd_H_isUsable_34 : decode bb_H_isUsable 34 = .ok (.ifCond .ne 7, 3) := by decide +kernel
theorem dd_H_isUsable_37 : decode bb_H_isUsable 37 = .ok (.iconst 1, 1) := by decide +kernel
theorem dd_H_isUsable_38 : decode bb_H_isUsable 38 = .ok (.goto 4, 3) := by decide +kernel
theorem dd_H_isUsable_41 : decode bb_H_isUsable 41 = .ok (.iconst 0, 1) := by decide +kernel
theorem dd_H_isUsable_42 : decode bb_H_isUsable 42 = .ok (.ireturn, 1) := by decide +kernel
theorem dd_H_hoseFrom_0 : decode bb_H_hoseFrom 0 = .ok (.aload_n 0, 1) := by decide +kernel
theorem dd_H_hoseFrom_1 : decode bb_H_hoseFrom 1 = .ok (.getfield 37, 3) := by decide +kernel
theorem dd_H_hoseFrom_4 : decode bb_H_hoseFrom 4 = .ok (.aload_n 0, 1) := by decide +kernel
theorem dd_H_hoseFrom_5 : decode bb_H_hoseFrom 5 = .ok (.getfield 40, 3) := by decide +kernel
theorem dd_H_hoseFrom_8 : decode bb_H_hoseFrom 8 = .ok (.iload_n 1, 1) := by decide +kernel
theorem dd_H_hoseFrom_9 : decode bb_H_hoseFrom 9 = .ok (.iload_n 2, 1) := by decide +kernel
theorem dd_H_hoseFrom_10 : decode bb_H_hoseFrom 10 = .ok (.invokestatic 69, 3) := by decide +kernel
theorem dd_H_hoseFrom_13 : decode bb_H_hoseFrom 13 = .ok (.ireturn, 1) := by decide +kernel
theorem dd_H_givenAt_0 : decode bb_H_givenAt 0 = .ok (.aload_n 0, 1) := by decide +kernel
theorem dd_H_givenAt_1 : decode bb_H_givenAt 1 = .ok (.getfield 30, 3) := by decide +kernel
theorem dd_H_givenAt_4 : decode bb_H_givenAt 4 = .ok (.ifnonnull 7, 3) := by decide +kernel
theorem dd_H_givenAt_7 : decode bb_H_givenAt 7 = .ok (.iconst 0, 1) := by decide +kernel
theorem dd_H_givenAt_8 : decode bb_H_givenAt 8 = .ok (.goto 11, 3) := by decide +kernel
theorem dd_H_givenAt_11 : decode bb_H_givenAt 11 = .ok (.aload_n 0, 1) := by decide +kernel
theorem dd_H_givenAt_12 : decode bb_H_givenAt 12 = .ok (.getfield 30, 3) := by decide +kernel
theorem dd_H_givenAt_15 : decode bb_H_givenAt 15 = .ok (.iload_n 1, 1) := by decide +kernel
theorem dd_H_givenAt_16 : decode bb_H_givenAt 16 = .ok (.invokevirtual 73, 3) := by decide +kernel
theorem dd_H_givenAt_19 : decode bb_H_givenAt 19 = .ok (.ireturn, 1) := by decide +kernel
theorem dd_H_isOverdue_0 : decode bb_H_isOverdue 0 = .ok (.aload_n 0, 1) := by decide +kernel
theorem dd_H_isOverdue_1 : decode bb_H_isOverdue 1 = .ok (.getfield 30, 3) := by decide +kernel
theorem dd_H_isOverdue_4 : decode bb_H_isOverdue 4 = .ok (.ifnull 16, 3) := by decide +kernel
theorem dd_H_isOverdue_7 : decode bb_H_isOverdue 7 = .ok (.iload_n 1, 1) := by decide +kernel
theorem dd_H_isOverdue_8 : decode bb_H_isOverdue 8 = .ok (.aload_n 0, 1) := by decide +kernel
theorem dd_H_isOverdue_9 : decode bb_H_isOverdue 9 = .ok (.getfield 30, 3) := by decide +kernel
theorem dd_H_isOverdue_12 : decode bb_H_isOverdue 12 = .ok (.getfield 49, 3) := by decide +kernel
theorem dd_H_isOverdue_15 : decode bb_H_isOverdue 15 = .ok (.isub, 1) := by decide +kernel
theorem dd_H_isOverdue_16 : decode bb_H_isOverdue 16 = .ok (.iload_n 2, 1) := by decide +kernel
theorem dd_H_isOverdue_17 : decode bb_H_isOverdue 17 = .ok (.if_icmp .le 7, 3) := by decide +kernel
theorem dd_H_isOverdue_20 : decode bb_H_isOverdue 20 = .ok (.iconst 1, 1) := by decide +kernel
theorem dd_H_isOverdue_21 : decode bb_H_isOverdue 21 = .ok (.goto 4, 3) := by decide +kernel
theorem dd_H_isOverdue_24 : decode bb_H_isOverdue 24 = .ok (.iconst 0, 1) := by decide +kernel
theorem dd_H_isOverdue_25 : decode bb_H_isOverdue 25 = .ok (.ireturn, 1) := by decide +kernel
theorem dd_H_overdueWeight_0 : decode bb_H_overdueWeight 0 = .ok (.aload_n 0, 1) := by decide +kernel
theorem dd_H_overdueWeight_1 : decode bb_H_overdueWeight 1 = .ok (.getfield 30, 3) := by decide +kernel
theorem dd_H_overdueWeight_4 : decode bb_H_overdueWeight 4 = .ok (.ifnonnull 7, 3) := by decide +kernel
theorem dd_H_overdueWeight_7 : decode bb_H_overdueWeight 7 = .ok (.iconst 0, 1) := by decide +kernel
theorem dd_H_overdueWeight_8 : decode bb_H_overdueWeight 8 = .ok (.goto 12, 3) := by decide +kernel
theorem dd_H_overdueWeight_11 : decode bb_H_overdueWeight 11 = .ok (.aload_n 0, 1) := by decide +kernel
theorem dd_H_overdueWeight_12 : decode bb_H_overdueWeight 12 = .ok (.getfield 30, 3) := by decide +kernel
theorem dd_H_overdueWeight_15 : decode bb_H_overdueWeight 15 = .ok (.getfield 49, 3) := by decide +kernel
theorem dd_H_overdueWeight_18 : decode bb_H_overdueWeight 18 = .ok (.iconst 1, 1) := by decide +kernel
theorem dd_H_overdueWeight_19 : decode bb_H_overdueWeight 19 = .ok (.iadd, 1) := by decide +kernel
theorem dd_H_overdueWeight_20 : decode bb_H_overdueWeight 20 = .ok (.ireturn, 1) := by decide +kernel
theorem dd_T_init_0 : decode bb_T_init 0 = .ok (.aload_n 0, 1) := by decide +kernel
theorem dd_T_init_1 : decode bb_T_init 1 = .ok (.invokespecial 1, 3) := by decide +kernel
theorem dd_T_init_4 : decode bb_T_init 4 = .ok (.aload_n 0, 1) := by decide +kernel
theorem dd_T_init_5 : decode bb_T_init 5 = .ok (.iload_n 1, 1) := by decide +kernel
theorem dd_T_init_6 : decode bb_T_init 6 = .ok (.putfield 7, 3) := by decide +kernel
theorem dd_T_init_9 : decode bb_T_init 9 = .ok (.aload_n 0, 1) := by decide +kernel
theorem dd_T_init_10 : decode bb_T_init 10 = .ok (.iload_n 2, 1) := by decide +kernel
theorem dd_T_init_11 : decode bb_T_init 11 = .ok (.putfield 13, 3) := by decide +kernel
theorem dd_T_init_14 : decode bb_T_init 14 = .ok (.aload_n 0, 1) := by decide +kernel
theorem dd_T_init_15 : decode bb_T_init 15 = .ok (.iload_n 3, 1) := by decide +kernel
theorem dd_T_init_16 : decode bb_T_init 16 = .ok (.putfield 16, 3) := by decide +kernel
theorem dd_T_init_19 : decode bb_T_init 19 = .ok (.aload_n 0, 1) := by decide +kernel
theorem dd_T_init_20 : decode bb_T_init 20 = .ok (.iload 4, 2) := by decide +kernel
theorem dd_T_init_22 : decode bb_T_init 22 = .ok (.putfield 19, 3) := by decide +kernel
theorem dd_T_init_25 : decode bb_T_init 25 = .ok (.aload_n 0, 1) := by decide +kernel
theorem dd_T_init_26 : decode bb_T_init 26 = .ok (.iload 5, 2) := by decide +kernel
theorem dd_T_init_28 : decode bb_T_init 28 = .ok (.putfield 22, 3) := by decide +kernel
theorem dd_T_init_31 : decode bb_T_init 31 = .ok (.aload_n 0, 1) := by decide +kernel
theorem dd_T_init_32 : decode bb_T_init 32 = .ok (.iload 6, 2) := by decide +kernel
theorem dd_T_init_34 : decode bb_T_init 34 = .ok (.putfield 25, 3) := by decide +kernel
theorem dd_T_init_37 : decode bb_T_init 37 = .ok (.return_, 1) := by decide +kernel
theorem dd_T_canTell_0 : decode bb_T_canTell 0 = .ok (.aload_n 0, 1) := by decide +kernel
theorem dd_T_canTell_1 : decode bb_T_canTell 1 = .ok (.iload_n 1, 1) := by decide +kernel
theorem dd_T_canTell_2 : decode bb_T_canTell 2 = .ok (.invokevirtual 28, 3) := by decide +kernel
theorem dd_T_canTell_5 : decode bb_T_canTell 5 = .ok (.ifCond .le 7, 3) := by decide +kernel
theorem dd_T_canTell_8 : decode bb_T_canTell 8 = .ok (.iconst 1, 1) := by decide +kernel
theorem dd_T_canTell_9 : decode bb_T_canTell 9 = .ok (.goto 4, 3) := by decide +kernel
theorem dd_T_canTell_12 : decode bb_T_canTell 12 = .ok (.iconst 0, 1) := by decide +kernel
theorem dd_T_canTell_13 : decode bb_T_canTell 13 = .ok (.ireturn, 1) := by decide +kernel
theorem dd_T_upperAt_0 : decode bb_T_upperAt 0 = .ok (.iload_n 1, 1) := by decide +kernel
theorem dd_T_upperAt_1 : decode bb_T_upperAt 1 = .ok (.aload_n 0, 1) := by decide +kernel
theorem dd_T_upperAt_2 : decode bb_T_upperAt 2 = .ok (.getfield 19, 3) := by decide +kernel
theorem dd_T_upperAt_5 : decode bb_T_upperAt 5 = .ok (.if_icmp .lt 7, 3) := by decide +kernel
theorem dd_T_upperAt_8 : decode bb_T_upperAt 8 = .ok (.iconst 0, 1) := by decide +kernel
theorem dd_T_upperAt_9 : decode bb_T_upperAt 9 = .ok (.goto 14, 3) := by decide +kernel
theorem dd_T_upperAt_12 : decode bb_T_upperAt 12 = .ok (.aload_n 0, 1) := by decide +kernel
theorem dd_T_upperAt_13 : decode bb_T_upperAt 13 = .ok (.getfield 22, 3) := by decide +kernel
theorem dd_T_upperAt_16 : decode bb_T_upperAt 16 = .ok (.aload_n 0, 1) := by decide +kernel
theorem dd_T_upperAt_17 : decode bb_T_upperAt 17 = .ok (.getfield 19, 3) := by decide +kernel
theorem dd_T_upperAt_20 : decode bb_T_upperAt 20 = .ok (.iload_n 1, 1) := by decide +kernel
theorem dd_T_upperAt_21 : decode bb_T_upperAt 21 = .ok (.isub, 1) := by decide +kernel
theorem dd_T_upperAt_22 : decode bb_T_upperAt 22 = .ok (.imul, 1) := by decide +kernel
theorem dd_T_upperAt_23 : decode bb_T_upperAt 23 = .ok (.ireturn, 1) := by decide +kernel
theorem dd_T_lowerAt_0 : decode bb_T_lowerAt 0 = .ok (.iload_n 1, 1) := by decide +kernel
theorem dd_T_lowerAt_1 : decode bb_T_lowerAt 1 = .ok (.aload_n 0, 1) := by decide +kernel
theorem dd_T_lowerAt_2 : decode bb_T_lowerAt 2 = .ok (.getfield 19, 3) := by decide +kernel
theorem dd_T_lowerAt_5 : decode bb_T_lowerAt 5 = .ok (.if_icmp .lt 7, 3) := by decide +kernel
theorem dd_T_lowerAt_8 : decode bb_T_lowerAt 8 = .ok (.iconst 1, 1) := by decide +kernel
theorem dd_T_lowerAt_9 : decode bb_T_lowerAt 9 = .ok (.goto 12, 3) := by decide +kernel
theorem dd_T_lowerAt_12 : decode bb_T_lowerAt 12 = .ok (.aload_n 0, 1) := by decide +kernel
theorem dd_T_lowerAt_13 : decode bb_T_lowerAt 13 = .ok (.getfield 19, 3) := by decide +kernel
theorem dd_T_lowerAt_16 : decode bb_T_lowerAt 16 = .ok (.aload_n 0, 1) := by decide +kernel
theorem dd_T_lowerAt_17 : decode bb_T_lowerAt 17 = .ok (.getfield 25, 3) := by decide +kernel
theorem dd_T_lowerAt_20 : decode bb_T_lowerAt 20 = .ok (.isub, 1) := by decide +kernel
theorem dd_T_lowerAt_21 : decode bb_T_lowerAt 21 = .ok (.ireturn, 1) := by decide +kernel
theorem dd_T_wholeAt_0 : decode bb_T_wholeAt 0 = .ok (.aload_n 0, 1) := by decide +kernel
theorem dd_T_wholeAt_1 : decode bb_T_wholeAt 1 = .ok (.iload_n 1, 1) := by decide +kernel
theorem dd_T_wholeAt_2 : decode bb_T_wholeAt 2 = .ok (.invokevirtual 28, 3) := by decide +kernel
theorem dd_T_wholeAt_5 : decode bb_T_wholeAt 5 = .ok (.istore_n 2, 1) := by decide +kernel
theorem dd_T_wholeAt_6 : decode bb_T_wholeAt 6 = .ok (.iload_n 2, 1) := by decide +kernel
theorem dd_T_wholeAt_7 : decode bb_T_wholeAt 7 = .ok (.ifCond .le 13, 3) := by decide +kernel
theorem dd_T_wholeAt_10 : decode bb_T_wholeAt 10 = .ok (.aload_n 0, 1) := by decide +kernel
theorem dd_T_wholeAt_11 : decode bb_T_wholeAt 11 = .ok (.iload_n 1, 1) := by decide +kernel
theorem dd_T_wholeAt_12 : decode bb_T_wholeAt 12 = .ok (.invokevirtual 32, 3) := by decide +kernel
theorem dd_T_wholeAt_15 : decode bb_T_wholeAt 15 = .ok (.iload_n 2, 1) := by decide +kernel
theorem dd_T_wholeAt_16 : decode bb_T_wholeAt 16 = .ok (.idiv, 1) := by decide +kernel
theorem dd_T_wholeAt_17 : decode bb_T_wholeAt 17 = .ok (.goto 4, 3) := by decide +kernel
theorem dd_T_wholeAt_20 : decode bb_T_wholeAt 20 = .ok (.iconst 0, 1) := by decide +kernel
theorem dd_T_wholeAt_21 : decode bb_T_wholeAt 21 = .ok (.ireturn, 1) := by decide +kernel
theorem dd_O_init_0 : decode bb_O_init 0 = .ok (.aload_n 0, 1) := by decide +kernel
theorem dd_O_init_1 : decode bb_O_init 1 = .ok (.invokespecial 1, 3) := by decide +kernel
theorem dd_O_init_4 : decode bb_O_init 4 = .ok (.aload_n 0, 1) := by decide +kernel
theorem dd_O_init_5 : decode bb_O_init 5 = .ok (.iload_n 1, 1) := by decide +kernel
theorem dd_O_init_6 : decode bb_O_init 6 = .ok (.putfield 7, 3) := by decide +kernel
theorem dd_O_init_9 : decode bb_O_init 9 = .ok (.aload_n 0, 1) := by decide +kernel
theorem dd_O_init_10 : decode bb_O_init 10 = .ok (.iload_n 2, 1) := by decide +kernel
theorem dd_O_init_11 : decode bb_O_init 11 = .ok (.putfield 13, 3) := by decide +kernel
theorem dd_O_init_14 : decode bb_O_init 14 = .ok (.return_, 1) := by decide +kernel
theorem dd_O_meet_0 : decode bb_O_meet 0 = .ok (.iload_n 1, 1) := by decide +kernel
theorem dd_O_meet_1 : decode bb_O_meet 1 = .ok (.aload_n 0, 1) := by decide +kernel
theorem dd_O_meet_2 : decode bb_O_meet 2 = .ok (.getfield 13, 3) := by decide +kernel
theorem dd_O_meet_5 : decode bb_O_meet 5 = .ok (.if_icmp .gt 15, 3) := by decide +kernel
theorem dd_O_meet_8 : decode bb_O_meet 8 = .ok (.aload_n 0, 1) := by decide +kernel
theorem dd_O_meet_9 : decode bb_O_meet 9 = .ok (.getfield 7, 3) := by decide +kernel
theorem dd_O_meet_12 : decode bb_O_meet 12 = .ok (.iload_n 2, 1) := by decide +kernel
theorem dd_O_meet_13 : decode bb_O_meet 13 = .ok (.if_icmp .gt 7, 3) := by decide +kernel
theorem dd_O_meet_16 : decode bb_O_meet 16 = .ok (.iconst 1, 1) := by decide +kernel
theorem dd_O_meet_17 : decode bb_O_meet 17 = .ok (.goto 4, 3) := by decide +kernel
theorem dd_O_meet_20 : decode bb_O_meet 20 = .ok (.iconst 0, 1) := by decide +kernel
theorem dd_O_meet_21 : decode bb_O_meet 21 = .ok (.ireturn, 1) := by decide +kernel
theorem dd_K_init_0 : decode bb_K_init 0 = .ok (.aload_n 0, 1) := by decide +kernel
theorem dd_K_init_1 : decode bb_K_init 1 = .ok (.invokespecial 3, 3) := by decide +kernel
theorem dd_K_init_4 : decode bb_K_init 4 = .ok (.aload_n 0, 1) := by decide +kernel
theorem dd_K_init_5 : decode bb_K_init 5 = .ok (.bipush 40, 2) := by decide +kernel
theorem dd_K_init_7 : decode bb_K_init 7 = .ok (.newarray .int, 2) := by decide +kernel
theorem dd_K_init_9 : decode bb_K_init 9 = .ok (.putfield 9, 3) := by decide +kernel
theorem dd_K_init_12 : decode bb_K_init 12 = .ok (.aload_n 0, 1) := by decide +kernel
theorem dd_K_init_13 : decode bb_K_init 13 = .ok (.iconst 0, 1) := by decide +kernel
theorem dd_K_init_14 : decode bb_K_init 14 = .ok (.putfield 15, 3) := by decide +kernel
theorem dd_K_init_17 : decode bb_K_init 17 = .ok (.return_, 1) := by decide +kernel
theorem dd_K_clear_0 : decode bb_K_clear 0 = .ok (.aload_n 0, 1) := by decide +kernel
theorem dd_K_clear_1 : decode bb_K_clear 1 = .ok (.iconst 0, 1) := by decide +kernel
theorem dd_K_clear_2 : decode bb_K_clear 2 = .ok (.putfield 15, 3) := by decide +kernel
theorem dd_K_clear_5 : decode bb_K_clear 5 = .ok (.return_, 1) := by decide +kernel
theorem dd_K_insert_0 : decode bb_K_insert 0 = .ok (.aload_n 0, 1) := by decide +kernel
theorem dd_K_insert_1 : decode bb_K_insert 1 = .ok (.getfield 15, 3) := by decide +kernel
theorem dd_K_insert_4 : decode bb_K_insert 4 = .ok (.ifCond .lt 15, 3) := by decide +kernel
theorem dd_K_insert_7 : decode bb_K_insert 7 = .ok (.aload_n 0, 1) := by decide +kernel
theorem dd_K_insert_8 : decode bb_K_insert 8 = .ok (.getfield 15, 3) := by decide +kernel
theorem dd_K_insert_11 : decode bb_K_insert 11 = .ok (.aload_n 0, 1) := by decide +kernel
theorem dd_K_insert_12 : decode bb_K_insert 12 = .ok (.getfield 9, 3) := by decide +kernel
theorem dd_K_insert_15 : decode bb_K_insert 15 = .ok (.arraylength, 1) := by decide +kernel
theorem dd_K_insert_16 : decode bb_K_insert 16 = .ok (.if_icmp .lt 4, 3) := by decide +kernel
theorem dd_K_insert_19 : decode bb_K_insert 19 = .ok (.return_, 1) := by decide +kernel
theorem dd_K_insert_20 : decode bb_K_insert 20 = .ok (.iload_n 1, 1) := by decide +kernel
theorem dd_K_insert_21 : decode bb_K_insert 21 = .ok (.bipush 40, 2) := by decide +kernel
theorem dd_K_insert_23 : decode bb_K_insert 23 = .ok (.imul, 1) := by decide +kernel
theorem dd_K_insert_24 : decode bb_K_insert 24 = .ok (.iload_n 2, 1) := by decide +kernel
theorem dd_K_insert_25 : decode bb_K_insert 25 = .ok (.iadd, 1) := by decide +kernel
theorem dd_K_insert_26 : decode bb_K_insert 26 = .ok (.istore_n 3, 1) := by decide +kernel
theorem dd_K_insert_27 : decode bb_K_insert 27 = .ok (.aload_n 0, 1) := by decide +kernel
theorem dd_K_insert_28 : decode bb_K_insert 28 = .ok (.getfield 15, 3) := by decide +kernel
theorem dd_K_insert_31 : decode bb_K_insert 31 = .ok (.istore 4, 2) := by decide +kernel
theorem dd_K_insert_33 : decode bb_K_insert 33 = .ok (.iload 4, 2) := by decide +kernel
theorem dd_K_insert_35 : decode bb_K_insert 35 = .ok (.ifCond .le 38, 3) := by decide +kernel
theorem dd_K_insert_38 : decode bb_K_insert 38 = .ok (.aload_n 0, 1) := by decide +kernel
theorem dd_K_insert_39 : decode bb_K_insert 39 = .ok (.getfield 9, 3) := by decide +kernel
theorem dd_K_insert_42 : decode bb_K_insert 42 = .ok (.iload 4, 2) := by decide +kernel
theorem dd_K_insert_44 : decode bb_K_insert 44 = .ok (.iconst 1, 1) := by decide +kernel
theorem dd_K_insert_45 : decode bb_K_insert 45 = .ok (.isub, 1) := by decide +kernel
theorem dd_K_insert_46 : decode bb_K_insert 46 = .ok (.iaload, 1) := by decide +kernel
theorem dd_K_insert_47 : decode bb_K_insert 47 = .ok (.iload_n 3, 1) := by decide +kernel
theorem dd_K_insert_48 : decode bb_K_insert 48 = .ok (.if_icmp .le 25, 3) := by decide +kernel
theorem dd_K_insert_51 : decode bb_K_insert 51 = .ok (.aload_n 0, 1) := by decide +kernel
theorem dd_K_insert_52 : decode bb_K_insert 52 = .ok (.getfield 9, 3) := by decide +kernel
theorem dd_K_insert_55 : decode bb_K_insert 55 = .ok (.iload 4, 2) := by decide +kernel
theorem dd_K_insert_57 : decode bb_K_insert 57 = .ok (.aload_n 0, 1) := by decide +kernel
theorem dd_K_insert_58 : decode bb_K_insert 58 = .ok (.getfield 9, 3) := by decide +kernel
theorem dd_K_insert_61 : decode bb_K_insert 61 = .ok (.iload 4, 2) := by decide +kernel
theorem dd_K_insert_63 : decode bb_K_insert 63 = .ok (.iconst 1, 1) := by decide +kernel
theorem dd_K_insert_64 : decode bb_K_insert 64 = .ok (.isub, 1) := by decide +kernel
theorem dd_K_insert_65 : decode bb_K_insert 65 = .ok (.iaload, 1) := by decide +kernel
theorem dd_K_insert_66 : decode bb_K_insert 66 = .ok (.iastore, 1) := by decide +kernel
theorem dd_K_insert_67 : decode bb_K_insert 67 = .ok (.iinc 4 (-1), 3) := by decide +kernel
theorem dd_K_insert_70 : decode bb_K_insert 70 = .ok (.goto (-37), 3) := by decide +kernel
theorem dd_K_insert_73 : decode bb_K_insert 73 = .ok (.aload_n 0, 1) := by decide +kernel
theorem dd_K_insert_74 : decode bb_K_insert 74 = .ok (.getfield 9, 3) := by decide +kernel
theorem dd_K_insert_77 : decode bb_K_insert 77 = .ok (.iload 4, 2) := by decide +kernel
theorem dd_K_insert_79 : decode bb_K_insert 79 = .ok (.iload_n 3, 1) := by decide +kernel
theorem dd_K_insert_80 : decode bb_K_insert 80 = .ok (.iastore, 1) := by decide +kernel
theorem dd_K_insert_81 : decode bb_K_insert 81 = .ok (.aload_n 0, 1) := by decide +kernel
theorem dd_K_insert_82 : decode bb_K_insert 82 = .ok (.dup, 1) := by decide +kernel
theorem dd_K_insert_83 : decode bb_K_insert 83 = .ok (.getfield 15, 3) := by decide +kernel
theorem dd_K_insert_86 : decode bb_K_insert 86 = .ok (.iconst 1, 1) := by decide +kernel
theorem dd_K_insert_87 : decode bb_K_insert 87 = .ok (.iadd, 1) := by decide +kernel
theorem dd_K_insert_88 : decode bb_K_insert 88 = .ok (.putfield 15, 3) := by decide +kernel
theorem dd_K_insert_91 : decode bb_K_insert 91 = .ok (.return_, 1) := by decide +kernel
theorem dd_K_numberAt_0 : decode bb_K_numberAt 0 = .ok (.iload_n 1, 1) := by decide +kernel
theorem dd_K_numberAt_1 : decode bb_K_numberAt 1 = .ok (.ifCond .lt 32, 3) := by decide +kernel
theorem dd_K_numberAt_4 : decode bb_K_numberAt 4 = .ok (.iload_n 1, 1) := by decide +kernel
theorem dd_K_numberAt_5 : decode bb_K_numberAt 5 = .ok (.aload_n 0, 1) := by decide +kernel
theorem dd_K_numberAt_6 : decode bb_K_numberAt 6 = .ok (.getfield 15, 3) := by decide +kernel
theorem dd_K_numberAt_9 : decode bb_K_numberAt 9 = .ok (.if_icmp .ge 24, 3) := by decide +kernel
theorem dd_K_numberAt_12 : decode bb_K_numberAt 12 = .ok (.iload_n 1, 1) := by decide +kernel
theorem dd_K_numberAt_13 : decode bb_K_numberAt 13 = .ok (.aload_n 0, 1) := by decide +kernel
theorem dd_K_numberAt_14 : decode bb_K_numberAt 14 = .ok (.getfield 9, 3) := by decide +kernel
theorem dd_K_numberAt_17 : decode bb_K_numberAt 17 = .ok (.arraylength, 1) := by decide +kernel
theorem dd_K_numberAt_18 : decode bb_K_numberAt 18 = .ok (.if_icmp .ge 15, 3) := by decide +kernel
theorem dd_K_numberAt_21 : decode bb_K_numberAt 21 = .ok (.aload_n 0, 1) := by decide +kernel
theorem dd_K_numberAt_22 : decode bb_K_numberAt 22 = .ok (.getfield 9, 3) := by decide +kernel
theorem dd_K_numberAt_25 : decode bb_K_numberAt 25 = .ok (.iload_n 1, 1) := by decide +kernel
theorem dd_K_numberAt_26 : decode bb_K_numberAt 26 = .ok (.iaload, 1) := by decide +kernel
theorem dd_K_numberAt_27 : decode bb_K_numberAt 27 = .ok (.bipush 40, 2) := by decide +kernel
theorem dd_K_numberAt_29 : decode bb_K_numberAt 29 = .ok (.irem, 1) := by decide +kernel
theorem dd_K_numberAt_30 : decode bb_K_numberAt 30 = .ok (.goto 4, 3) := by decide +kernel
theorem dd_K_numberAt_33 : decode bb_K_numberAt 33 = .ok (.iconst (-1), 1) := by decide +kernel
theorem dd_K_numberAt_34 : decode bb_K_numberAt 34 = .ok (.ireturn, 1) := by decide +kernel
theorem dd_A_init_0 : decode bb_A_init 0 = .ok (.aload_n 0, 1) := by decide +kernel
theorem dd_A_init_1 : decode bb_A_init 1 = .ok (.invokespecial 3, 3) := by decide +kernel
theorem dd_A_init_4 : decode bb_A_init 4 = .ok (.aload_n 0, 1) := by decide +kernel
theorem dd_A_init_5 : decode bb_A_init 5 = .ok (.bipush 6, 2) := by decide +kernel
theorem dd_A_init_7 : decode bb_A_init 7 = .ok (.anewarray 9, 3) := by decide +kernel
theorem dd_A_init_10 : decode bb_A_init 10 = .ok (.putfield 11, 3) := by decide +kernel
theorem dd_A_init_13 : decode bb_A_init 13 = .ok (.aload_n 0, 1) := by decide +kernel
theorem dd_A_init_14 : decode bb_A_init 14 = .ok (.bipush 6, 2) := by decide +kernel
theorem dd_A_init_16 : decode bb_A_init 16 = .ok (.newarray .int, 2) := by decide +kernel
theorem dd_A_init_18 : decode bb_A_init 18 = .ok (.putfield 17, 3) := by decide +kernel
theorem dd_A_init_21 : decode bb_A_init 21 = .ok (.aload_n 0, 1) := by decide +kernel
theorem dd_A_init_22 : decode bb_A_init 22 = .ok (.bipush 6, 2) := by decide +kernel
theorem dd_A_init_24 : decode bb_A_init 24 = .ok (.newarray .int, 2) := by decide +kernel
theorem dd_A_init_26 : decode bb_A_init 26 = .ok (.putfield 21, 3) := by decide +kernel
theorem dd_A_init_29 : decode bb_A_init 29 = .ok (.aload_n 0, 1) := by decide +kernel
theorem dd_A_init_30 : decode bb_A_init 30 = .ok (.iconst 0, 1) := by decide +kernel
theorem dd_A_init_31 : decode bb_A_init 31 = .ok (.putfield 24, 3) := by decide +kernel
theorem dd_A_init_34 : decode bb_A_init 34 = .ok (.aload_n 0, 1) := by decide +kernel
theorem dd_A_init_35 : decode bb_A_init 35 = .ok (.iconst 0, 1) := by decide +kernel
theorem dd_A_init_36 : decode bb_A_init 36 = .ok (.putfield 28, 3) := by decide +kernel
theorem dd_A_init_39 : decode bb_A_init 39 = .ok (.return_, 1) := by decide +kernel
theorem dd_A_clear_0 : decode bb_A_clear 0 = .ok (.iconst 0, 1) := by decide +kernel
theorem dd_A_clear_1 : decode bb_A_clear 1 = .ok (.istore_n 1, 1) := by decide +kernel
theorem dd_A_clear_2 : decode bb_A_clear 2 = .ok (.iload_n 1, 1) := by decide +kernel
theorem dd_A_clear_3 : decode bb_A_clear 3 = .ok (.aload_n 0, 1) := by decide +kernel
theorem dd_A_clear_4 : decode bb_A_clear 4 = .ok (.getfield 11, 3) := by decide +kernel
theorem dd_A_clear_7 : decode bb_A_clear 7 = .ok (.arraylength, 1) := by decide +kernel
theorem dd_A_clear_8 : decode bb_A_clear 8 = .ok (.if_icmp .ge 16, 3) := by decide +kernel
theorem dd_A_clear_11 : decode bb_A_clear 11 = .ok (.aload_n 0, 1) := by decide +kernel
theorem dd_A_clear_12 : decode bb_A_clear 12 = .ok (.getfield 11, 3) := by decide +kernel
theorem dd_A_clear_15 : decode bb_A_clear 15 = .ok (.iload_n 1, 1) := by decide +kernel
theorem dd_A_clear_16 : decode bb_A_clear 16 = .ok (.aconst_null, 1) := by decide +kernel
theorem dd_A_clear_17 : decode bb_A_clear 17 = .ok (.aastore, 1) := by decide +kernel
theorem dd_A_clear_18 : decode bb_A_clear 18 = .ok (.iinc 1 1, 3) := by decide +kernel
theorem dd_A_clear_21 : decode bb_A_clear 21 = .ok (.goto (-19), 3) := by decide +kernel
theorem dd_A_clear_24 : decode bb_A_clear 24 = .ok (.aload_n 0, 1) := by decide +kernel
theorem dd_A_clear_25 : decode bb_A_clear 25 = .ok (.iconst 0, 1) := by decide +kernel
theorem dd_A_clear_26 : decode bb_A_clear 26 = .ok (.putfield 24, 3) := by decide +kernel
theorem dd_A_clear_29 : decode bb_A_clear 29 = .ok (.return_, 1) := by decide +kernel
theorem dd_A_choose_0 : decode bb_A_choose 0 = .ok (.aload_n 0, 1) := by decide +kernel
theorem dd_A_choose_1 : decode bb_A_choose 1 = .ok (.getfield 24, 3) := by decide +kernel
theorem dd_A_choose_4 : decode bb_A_choose 4 = .ok (.ifCond .lt 35, 3) := by decide +kernel
theorem dd_A_choose_7 : decode bb_A_choose 7 = .ok (.aload_n 0, 1) := by decide +kernel
theorem dd_A_choose_8 : decode bb_A_choose 8 = .ok (.getfield 24, 3) := by decide +kernel
theorem dd_A_choose_11 : decode bb_A_choose 11 = .ok (.aload_n 0, 1) := by decide +kernel
theorem dd_A_choose_12 : decode bb_A_choose 12 = .ok (.getfield 11, 3) := by decide +kernel
theorem dd_A_choose_15 : decode bb_A_choose 15 = .ok (.arraylength, 1) := by decide +kernel
theorem dd_A_choose_16 : decode bb_A_choose 16 = .ok (.if_icmp .ge 23, 3) := by decide +kernel
theorem dd_A_choose_19 : decode bb_A_choose 19 = .ok (.aload_n 0, 1) := by decide +kernel
theorem dd_A_choose_20 : decode bb_A_choose 20 = .ok (.getfield 11, 3) := by decide +kernel
theorem dd_A_choose_23 : decode bb_A_choose 23 = .ok (.aload_n 0, 1) := by decide +kernel
theorem dd_A_choose_24 : decode bb_A_choose 24 = .ok (.getfield 24, 3) := by decide +kernel
theorem dd_A_choose_27 : decode bb_A_choose 27 = .ok (.aload_n 1, 1) := by decide +kernel
theorem dd_A_choose_28 : decode bb_A_choose 28 = .ok (.aastore, 1) := by decide +kernel
theorem dd_A_choose_29 : decode bb_A_choose 29 = .ok (.aload_n 0, 1) := by decide +kernel
theorem dd_A_choose_30 : decode bb_A_choose 30 = .ok (.dup, 1) := by decide +kernel
theorem dd_A_choose_31 : decode bb_A_choose 31 = .ok (.getfield 24, 3) := by decide +kernel
theorem dd_A_choose_34 : decode bb_A_choose 34 = .ok (.iconst 1, 1) := by decide +kernel
theorem dd_A_choose_35 : decode bb_A_choose 35 = .ok (.iadd, 1) := by decide +kernel
theorem dd_A_choose_36 : decode bb_A_choose 36 = .ok (.putfield 24, 3) := by decide +kernel
theorem dd_A_choose_39 : decode bb_A_choose 39 = .ok (.return_, 1) := by decide +kernel
theorem dd_A_leastMetres_0 : decode bb_A_leastMetres 0 = .ok (.aload_n 0, 1) := by decide +kernel
theorem dd_A_leastMetres_1 : decode bb_A_leastMetres 1 = .ok (.ldc 33, 2) := by decide +kernel
theorem dd_A_leastMetres_3 : decode bb_A_leastMetres 3 = .ok (.putfield 28, 3) := by decide +kernel
theorem dd_A_leastMetres_6 : decode bb_A_leastMetres 6 = .ok (.aload_n 0, 1) := by decide +kernel
theorem dd_A_leastMetres_7 : decode bb_A_leastMetres 7 = .ok (.iconst 0, 1) := by decide +kernel
theorem dd_A_leastMetres_8 : decode bb_A_leastMetres 8 = .ok (.iconst 0, 1) := by decide +kernel
theorem dd_A_leastMetres_9 : decode bb_A_leastMetres 9 = .ok (.iconst 0, 1) := by decide +kernel
theorem dd_A_leastMetres_10 : decode bb_A_leastMetres 10 = .ok (.iconst 0, 1) := by decide +kernel
theorem dd_A_leastMetres_11 : decode bb_A_leastMetres 11 = .ok (.iconst 0, 1) := by decide +kernel
theorem dd_A_leastMetres_12 : decode bb_A_leastMetres 12 = .ok (.invokevirtual 34, 3) := by decide +kernel
theorem dd_A_leastMetres_15 : decode bb_A_leastMetres 15 = .ok (.aload_n 0, 1) := by decide +kernel
theorem dd_A_leastMetres_16 : decode bb_A_leastMetres 16 = .ok (.getfield 28, 3) := by decide +kernel
theorem dd_A_leastMetres_19 : decode bb_A_leastMetres 19 = .ok (.ireturn, 1) := by decide +kernel
theorem dd_A_stopAt_0 : decode bb_A_stopAt 0 = .ok (.iload_n 1, 1) := by decide +kernel
theorem dd_A_stopAt_1 : decode bb_A_stopAt 1 = .ok (.ifCond .lt 29, 3) := by decide +kernel
theorem dd_A_stopAt_4 : decode bb_A_stopAt 4 = .ok (.iload_n 1, 1) := by decide +kernel
theorem dd_A_stopAt_5 : decode bb_A_stopAt 5 = .ok (.aload_n 0, 1) := by decide +kernel
theorem dd_A_stopAt_6 : decode bb_A_stopAt 6 = .ok (.getfield 24, 3) := by decide +kernel
theorem dd_A_stopAt_9 : decode bb_A_stopAt 9 = .ok (.if_icmp .ge 21, 3) := by decide +kernel
theorem dd_A_stopAt_12 : decode bb_A_stopAt 12 = .ok (.iload_n 1, 1) := by decide +kernel
theorem dd_A_stopAt_13 : decode bb_A_stopAt 13 = .ok (.aload_n 0, 1) := by decide +kernel
theorem dd_A_stopAt_14 : decode bb_A_stopAt 14 = .ok (.getfield 21, 3) := by decide +kernel
theorem dd_A_stopAt_17 : decode bb_A_stopAt 17 = .ok (.arraylength, 1) := by decide +kernel
theorem dd_A_stopAt_18 : decode bb_A_stopAt 18 = .ok (.if_icmp .ge 12, 3) := by decide +kernel
theorem dd_A_stopAt_21 : decode bb_A_stopAt 21 = .ok (.aload_n 0, 1) := by decide +kernel
theorem dd_A_stopAt_22 : decode bb_A_stopAt 22 = .ok (.getfield 21, 3) := by decide +kernel
theorem dd_A_stopAt_25 : decode bb_A_stopAt 25 = .ok (.iload_n 1, 1) := by decide +kernel
theorem dd_A_stopAt_26 : decode bb_A_stopAt 26 = .ok (.iaload, 1) := by decide +kernel
theorem dd_A_stopAt_27 : decode bb_A_stopAt 27 = .ok (.goto 4, 3) := by decide +kernel
theorem dd_A_stopAt_30 : decode bb_A_stopAt 30 = .ok (.iconst (-1), 1) := by decide +kernel
theorem dd_A_stopAt_31 : decode bb_A_stopAt 31 = .ok (.ireturn, 1) := by decide +kernel
theorem dd_A_goOn_0 : decode bb_A_goOn 0 = .ok (.iload 5, 2) := by decide +kernel
theorem dd_A_goOn_2 : decode bb_A_goOn 2 = .ok (.iload_n 3, 1) := by decide +kernel
theorem dd_A_goOn_3 : decode bb_A_goOn 3 = .ok (.iload 4, 2) := by decide +kernel
theorem dd_A_goOn_5 : decode bb_A_goOn 5 = .ok (.iconst 0, 1) := by decide +kernel
theorem dd_A_goOn_6 : decode bb_A_goOn 6 = .ok (.iconst 0, 1) := by decide +kernel
theorem dd_A_goOn_7 : decode bb_A_goOn 7 = .ok (.invokestatic 38, 3) := by decide +kernel
theorem dd_A_goOn_10 : decode bb_A_goOn 10 = .ok (.iadd, 1) := by decide +kernel
theorem dd_A_goOn_11 : decode bb_A_goOn 11 = .ok (.istore 6, 2) := by decide +kernel
theorem dd_A_goOn_13 : decode bb_A_goOn 13 = .ok (.iload 6, 2) := by decide +kernel
theorem dd_A_goOn_15 : decode bb_A_goOn 15 = .ok (.aload_n 0, 1) := by decide +kernel
theorem dd_A_goOn_16 : decode bb_A_goOn 16 = .ok (.getfield 28, 3) := by decide +kernel
theorem dd_A_goOn_19 : decode bb_A_goOn 19 = .ok (.if_icmp .lt 4, 3) := by decide +kernel
theorem dd_A_goOn_22 : decode bb_A_goOn 22 = .ok (.return_, 1) := by decide +kernel
theorem dd_A_goOn_23 : decode bb_A_goOn 23 = .ok (.iload_n 1, 1) := by decide +kernel
theorem dd_A_goOn_24 : decode bb_A_goOn 24 = .ok (.aload_n 0, 1) := by decide +kernel
theorem dd_A_goOn_25 : decode bb_A_goOn 25 = .ok (.getfield 24, 3) := by decide +kernel
theorem dd_A_goOn_28 : decode bb_A_goOn 28 = .ok (.if_icmp .ge 9, 3) := by decide +kernel
theorem dd_A_goOn_31 : decode bb_A_goOn 31 = .ok (.iload_n 1, 1) := by decide +kernel
theorem dd_A_goOn_32 : decode bb_A_goOn 32 = .ok (.bipush 6, 2) := by decide +kernel
theorem dd_A_goOn_34 : decode bb_A_goOn 34 = .ok (.if_icmp .lt 10, 3) := by decide +kernel
theorem dd_A_goOn_37 : decode bb_A_goOn 37 = .ok (.aload_n 0, 1) := by decide +kernel
theorem dd_A_goOn_38 : decode bb_A_goOn 38 = .ok (.iload 6, 2) := by decide +kernel
theorem dd_A_goOn_40 : decode bb_A_goOn 40 = .ok (.invokevirtual 42, 3) := by decide +kernel
theorem dd_A_goOn_43 : decode bb_A_goOn 43 = .ok (.return_, 1) := by decide +kernel
theorem dd_A_goOn_44 : decode bb_A_goOn 44 = .ok (.iconst 0, 1) := by decide +kernel
theorem dd_A_goOn_45 : decode bb_A_goOn 45 = .ok (.istore 7, 2) := by decide +kernel
theorem dd_A_goOn_47 : decode bb_A_goOn 47 = .ok (.iload 7, 2) := by decide +kernel
theorem dd_A_goOn_49 : decode bb_A_goOn 49 = .ok (.aload_n 0, 1) := by decide +kernel
theorem dd_A_goOn_50 : decode bb_A_goOn 50 = .ok (.getfield 11, 3) := by decide +kernel
theorem dd_A_goOn_53 : decode bb_A_goOn 53 = .ok (.arraylength, 1) := by decide +kernel
theorem dd_A_goOn_54 : decode bb_A_goOn 54 = .ok (.if_icmp .ge 77, 3) := by decide +kernel
theorem dd_A_goOn_57 : decode bb_A_goOn 57 = .ok (.aload_n 0, 1) := by decide +kernel
theorem dd_A_goOn_58 : decode bb_A_goOn 58 = .ok (.getfield 11, 3) := by decide +kernel
theorem dd_A_goOn_61 : decode bb_A_goOn 61 = .ok (.iload 7, 2) := by decide +kernel
theorem dd_A_goOn_63 : decode bb_A_goOn 63 = .ok (.aaload, 1) := by decide +kernel
theorem dd_A_goOn_64 : decode bb_A_goOn 64 = .ok (.astore 8, 2) := by decide +kernel
theorem dd_A_goOn_66 : decode bb_A_goOn 66 = .ok (.aload 8, 2) := by decide +kernel
theorem dd_A_goOn_68 : decode bb_A_goOn 68 = .ok (.ifnull 57, 3) := by decide +kernel
theorem dd_A_goOn_71 : decode bb_A_goOn 71 = .ok (.iload_n 2, 1) := by decide +kernel
theorem dd_A_goOn_72 : decode bb_A_goOn 72 = .ok (.iload 7, 2) := by decide +kernel
theorem dd_A_goOn_74 : decode bb_A_goOn 74 = .ok (.iushr, 1) := by decide +kernel
theorem dd_A_goOn_75 : decode bb_A_goOn 75 = .ok (.iconst 1, 1) := by decide +kernel
theorem dd_A_goOn_76 : decode bb_A_goOn 76 = .ok (.iand, 1) := by decide +kernel
theorem dd_A_goOn_77 : decode bb_A_goOn 77 = .ok (.ifCond .ne 48, 3) := by decide +kernel
theorem dd_A_goOn_80 : decode bb_A_goOn 80 = .ok (.aload_n 0, 1) := by decide +kernel
theorem dd_A_goOn_81 : decode bb_A_goOn 81 = .ok (.getfield 17, 3) := by decide +kernel
theorem dd_A_goOn_84 : decode bb_A_goOn 84 = .ok (.iload_n 1, 1) := by decide +kernel
theorem dd_A_goOn_85 : decode bb_A_goOn 85 = .ok (.aload 8, 2) := by decide +kernel
theorem dd_A_goOn_87 : decode bb_A_goOn 87 = .ok (.getfield 46, 3) := by decide +kernel
theorem dd_A_goOn_90 : decode bb_A_goOn 90 = .ok (.iastore, 1) := by decide +kernel
theorem dd_A_goOn_91 : decode bb_A_goOn 91 = .ok (.aload_n 0, 1) := by decide +kernel
theorem dd_A_goOn_92 : decode bb_A_goOn 92 = .ok (.iload_n 1, 1) := by decide +kernel
theorem dd_A_goOn_93 : decode bb_A_goOn 93 = .ok (.iconst 1, 1) := by decide +kernel
theorem dd_A_goOn_94 : decode bb_A_goOn 94 = .ok (.iadd, 1) := by decide +kernel
theorem dd_A_goOn_95 : decode bb_A_goOn 95 = .ok (.iload_n 2, 1) := by decide +kernel
theorem dd_A_goOn_96 : decode bb_A_goOn 96 = .ok (.iconst 1, 1) := by decide +kernel
theorem dd_A_goOn_97 : decode bb_A_goOn 97 = .ok (.iload 7, 2) := by decide +kernel
theorem dd_A_goOn_99 : decode bb_A_goOn 99 = .ok (.ishl, 1) := by decide +kernel
theorem dd_A_goOn_100 : decode bb_A_goOn 100 = .ok (.ior, 1) := by decide +kernel
theorem dd_A_goOn_101 : decode bb_A_goOn 101 = .ok (.aload 8, 2) := by decide +kernel
theorem dd_A_goOn_103 : decode bb_A_goOn 103 = .ok (.getfield 49, 3) := by decide +kernel
theorem dd_A_goOn_106 : decode bb_A_goOn 106 = .ok (.aload 8, 2) := by decide +kernel
theorem dd_A_goOn_108 : decode bb_A_goOn 108 = .ok (.getfield 52, 3) := by decide +kernel
theorem dd_A_goOn_111 : decode bb_A_goOn 111 = .ok (.iload 5, 2) := by decide +kernel
theorem dd_A_goOn_113 : decode bb_A_goOn 113 = .ok (.aload 8, 2) := by decide +kernel
theorem dd_A_goOn_115 : decode bb_A_goOn 115 = .ok (.iload_n 3, 1) := by decide +kernel
theorem dd_A_goOn_116 : decode bb_A_goOn 116 = .ok (.iload 4, 2) := by decide +kernel
theorem dd_A_goOn_118 : decode bb_A_goOn 118 = .ok (.invokevirtual 55, 3) := by decide +kernel
theorem dd_A_goOn_121 : decode bb_A_goOn 121 = .ok (.iadd, 1) := by decide +kernel
theorem dd_A_goOn_122 : decode bb_A_goOn 122 = .ok (.invokevirtual 34, 3) := by decide +kernel
theorem dd_A_goOn_125 : decode bb_A_goOn 125 = .ok (.iinc 7 1, 3) := by decide +kernel
theorem dd_A_goOn_128 : decode bb_A_goOn 128 = .ok (.goto (-81), 3) := by decide +kernel
theorem dd_A_goOn_131 : decode bb_A_goOn 131 = .ok (.return_, 1) := by decide +kernel
theorem dd_A_keepWay_0 : decode bb_A_keepWay 0 = .ok (.aload_n 0, 1) := by decide +kernel
theorem dd_A_keepWay_1 : decode bb_A_keepWay 1 = .ok (.iload_n 1, 1) := by decide +kernel
theorem dd_A_keepWay_2 : decode bb_A_keepWay 2 = .ok (.putfield 28, 3) := by decide +kernel
theorem dd_A_keepWay_5 : decode bb_A_keepWay 5 = .ok (.iconst 0, 1) := by decide +kernel
theorem dd_A_keepWay_6 : decode bb_A_keepWay 6 = .ok (.istore_n 2, 1) := by decide +kernel
theorem dd_A_keepWay_7 : decode bb_A_keepWay 7 = .ok (.iload_n 2, 1) := by decide +kernel
theorem dd_A_keepWay_8 : decode bb_A_keepWay 8 = .ok (.bipush 6, 2) := by decide +kernel
theorem dd_A_keepWay_10 : decode bb_A_keepWay 10 = .ok (.if_icmp .ge 21, 3) := by decide +kernel
theorem dd_A_keepWay_13 : decode bb_A_keepWay 13 = .ok (.aload_n 0, 1) := by decide +kernel
theorem dd_A_keepWay_14 : decode bb_A_keepWay 14 = .ok (.getfield 21, 3) := by decide +kernel
theorem dd_A_keepWay_17 : decode bb_A_keepWay 17 = .ok (.iload_n 2, 1) := by decide +kernel
theorem dd_A_keepWay_18 : decode bb_A_keepWay 18 = .ok (.aload_n 0, 1) := by decide +kernel
theorem dd_A_keepWay_19 : decode bb_A_keepWay 19 = .ok (.getfield 17, 3) := by decide +kernel
theorem dd_A_keepWay_22 : decode bb_A_keepWay 22 = .ok (.iload_n 2, 1) := by decide +kernel
theorem dd_A_keepWay_23 : decode bb_A_keepWay 23 = .ok (.iaload, 1) := by decide +kernel
theorem dd_A_keepWay_24 : decode bb_A_keepWay 24 = .ok (.iastore, 1) := by decide +kernel
theorem dd_A_keepWay_25 : decode bb_A_keepWay 25 = .ok (.iinc 2 1, 3) := by decide +kernel
theorem dd_A_keepWay_28 : decode bb_A_keepWay 28 = .ok (.goto (-21), 3) := by decide +kernel
theorem dd_A_keepWay_31 : decode bb_A_keepWay 31 = .ok (.return_, 1) := by decide +kernel
theorem dd_M_init_0 : decode bb_M_init 0 = .ok (.aload_n 0, 1) := by decide +kernel
theorem dd_M_init_1 : decode bb_M_init 1 = .ok (.invokespecial 1, 3) := by decide +kernel
theorem dd_M_init_4 : decode bb_M_init 4 = .ok (.aload_n 0, 1) := by decide +kernel
theorem dd_M_init_5 : decode bb_M_init 5 = .ok (.bipush 40, 2) := by decide +kernel
theorem dd_M_init_7 : decode bb_M_init 7 = .ok (.newarray .int, 2) := by decide +kernel
theorem dd_M_init_9 : decode bb_M_init 9 = .ok (.putfield 7, 3) := by decide +kernel
theorem dd_M_init_12 : decode bb_M_init 12 = .ok (.aload_n 0, 1) := by decide +kernel
theorem dd_M_init_13 : decode bb_M_init 13 = .ok (.bipush 40, 2) := by decide +kernel
theorem dd_M_init_15 : decode bb_M_init 15 = .ok (.newarray .int, 2) := by decide +kernel
theorem dd_M_init_17 : decode bb_M_init 17 = .ok (.putfield 13, 3) := by decide +kernel
theorem dd_M_init_20 : decode bb_M_init 20 = .ok (.aload_n 0, 1) := by decide +kernel
theorem dd_M_init_21 : decode bb_M_init 21 = .ok (.bipush 40, 2) := by decide +kernel
theorem dd_M_init_23 : decode bb_M_init 23 = .ok (.newarray .int, 2) := by decide +kernel
theorem dd_M_init_25 : decode bb_M_init 25 = .ok (.putfield 16, 3) := by decide +kernel
theorem dd_M_init_28 : decode bb_M_init 28 = .ok (.aload_n 0, 1) := by decide +kernel
theorem dd_M_init_29 : decode bb_M_init 29 = .ok (.bipush 40, 2) := by decide +kernel
theorem dd_M_init_31 : decode bb_M_init 31 = .ok (.newarray .int, 2) := by decide +kernel
theorem dd_M_init_33 : decode bb_M_init 33 = .ok (.putfield 19, 3) := by decide +kernel
theorem dd_M_init_36 : decode bb_M_init 36 = .ok (.aload_n 0, 1) := by decide +kernel
theorem dd_M_init_37 : decode bb_M_init 37 = .ok (.bipush 40, 2) := by decide +kernel
theorem dd_M_init_39 : decode bb_M_init 39 = .ok (.newarray .int, 2) := by decide +kernel
theorem dd_M_init_41 : decode bb_M_init 41 = .ok (.putfield 22, 3) := by decide +kernel
theorem dd_M_init_44 : decode bb_M_init 44 = .ok (.aload_n 0, 1) := by decide +kernel
theorem dd_M_init_45 : decode bb_M_init 45 = .ok (.bipush 40, 2) := by decide +kernel
theorem dd_M_init_47 : decode bb_M_init 47 = .ok (.newarray .int, 2) := by decide +kernel
theorem dd_M_init_49 : decode bb_M_init 49 = .ok (.putfield 25, 3) := by decide +kernel
theorem dd_M_init_52 : decode bb_M_init 52 = .ok (.aload_n 0, 1) := by decide +kernel
theorem dd_M_init_53 : decode bb_M_init 53 = .ok (.bipush 120, 2) := by decide +kernel
theorem dd_M_init_55 : decode bb_M_init 55 = .ok (.newarray .int, 2) := by decide +kernel
theorem dd_M_init_57 : decode bb_M_init 57 = .ok (.putfield 28, 3) := by decide +kernel
theorem dd_M_init_60 : decode bb_M_init 60 = .ok (.aload_n 0, 1) := by decide +kernel
theorem dd_M_init_61 : decode bb_M_init 61 = .ok (.bipush 120, 2) := by decide +kernel
theorem dd_M_init_63 : decode bb_M_init 63 = .ok (.newarray .int, 2) := by decide +kernel
theorem dd_M_init_65 : decode bb_M_init 65 = .ok (.putfield 31, 3) := by decide +kernel
theorem dd_M_init_68 : decode bb_M_init 68 = .ok (.aload_n 0, 1) := by decide +kernel
theorem dd_M_init_69 : decode bb_M_init 69 = .ok (.sipush 480, 3) := by decide +kernel
theorem dd_M_init_72 : decode bb_M_init 72 = .ok (.newarray .boolean, 2) := by decide +kernel
theorem dd_M_init_74 : decode bb_M_init 74 = .ok (.putfield 34, 3) := by decide +kernel
theorem dd_M_init_77 : decode bb_M_init 77 = .ok (.aload_n 0, 1) := by decide +kernel
theorem dd_M_init_78 : decode bb_M_init 78 = .ok (.bipush 20, 2) := by decide +kernel
theorem dd_M_init_80 : decode bb_M_init 80 = .ok (.newarray .int, 2) := by decide +kernel
theorem dd_M_init_82 : decode bb_M_init 82 = .ok (.putfield 38, 3) := by decide +kernel
theorem dd_M_init_85 : decode bb_M_init 85 = .ok (.aload_n 0, 1) := by decide +kernel
theorem dd_M_init_86 : decode bb_M_init 86 = .ok (.bipush 100, 2) := by decide +kernel
theorem dd_M_init_88 : decode bb_M_init 88 = .ok (.newarray .int, 2) := by decide +kernel
theorem dd_M_init_90 : decode bb_M_init 90 = .ok (.putfield 41, 3) := by decide +kernel
theorem dd_M_init_93 : decode bb_M_init 93 = .ok (.aload_n 0, 1) := by decide +kernel
theorem dd_M_init_94 : decode bb_M_init 94 = .ok (.bipush 100, 2) := by decide +kernel
theorem dd_M_init_96 : decode bb_M_init 96 = .ok (.newarray .int, 2) := by decide +kernel
theorem dd_M_init_98 : decode bb_M_init 98 = .ok (.putfield 44, 3) := by decide +kernel
theorem dd_M_init_101 : decode bb_M_init 101 = .ok (.aload_n 0, 1) := by decide +kernel
theorem dd_M_init_102 : decode bb_M_init 102 = .ok (.bipush 100, 2) := by decide +kernel
theorem dd_M_init_104 : decode bb_M_init 104 = .ok (.newarray .int, 2) := by decide +kernel
theorem dd_M_init_106 : decode bb_M_init 106 = .ok (.putfield 47, 3) := by decide +kernel
theorem dd_M_init_109 : decode bb_M_init 109 = .ok (.aload_n 0, 1) := by decide +kernel
theorem dd_M_init_110 : decode bb_M_init 110 = .ok (.bipush 100, 2) := by decide +kernel
theorem dd_M_init_112 : decode bb_M_init 112 = .ok (.newarray .int, 2) := by decide +kernel
theorem dd_M_init_114 : decode bb_M_init 114 = .ok (.putfield 50, 3) := by decide +kernel
theorem dd_M_init_117 : decode bb_M_init 117 = .ok (.aload_n 0, 1) := by decide +kernel
theorem dd_M_init_118 : decode bb_M_init 118 = .ok (.bipush 100, 2) := by decide +kernel
theorem dd_M_init_120 : decode bb_M_init 120 = .ok (.newarray .int, 2) := by decide +kernel
theorem dd_M_init_122 : decode bb_M_init 122 = .ok (.putfield 53, 3) := by decide +kernel
theorem dd_M_init_125 : decode bb_M_init 125 = .ok (.aload_n 0, 1) := by decide +kernel
theorem dd_M_init_126 : decode bb_M_init 126 = .ok (.bipush 6, 2) := by decide +kernel
theorem dd_M_init_128 : decode bb_M_init 128 = .ok (.newarray .int, 2) := by decide +kernel
theorem dd_M_init_130 : decode bb_M_init 130 = .ok (.putfield 56, 3) := by decide +kernel
theorem dd_M_init_133 : decode bb_M_init 133 = .ok (.aload_n 0, 1) := by decide +kernel
theorem dd_M_init_134 : decode bb_M_init 134 = .ok (.bipush 6, 2) := by decide +kernel
theorem dd_M_init_136 : decode bb_M_init 136 = .ok (.newarray .int, 2) := by decide +kernel
theorem dd_M_init_138 : decode bb_M_init 138 = .ok (.putfield 59, 3) := by decide +kernel
theorem dd_M_init_141 : decode bb_M_init 141 = .ok (.aload_n 0, 1) := by decide +kernel
theorem dd_M_init_142 : decode bb_M_init 142 = .ok (.bipush 6, 2) := by decide +kernel
theorem dd_M_init_144 : decode bb_M_init 144 = .ok (.newarray .int, 2) := by decide +kernel
theorem dd_M_init_146 : decode bb_M_init 146 = .ok (.putfield 62, 3) := by decide +kernel
theorem dd_M_init_149 : decode bb_M_init 149 = .ok (.iconst 0, 1) := by decide +kernel
theorem dd_M_init_150 : decode bb_M_init 150 = .ok (.istore_n 1, 1) := by decide +kernel
theorem dd_M_init_151 : decode bb_M_init 151 = .ok (.iload_n 1, 1) := by decide +kernel
theorem dd_M_init_152 : decode bb_M_init 152 = .ok (.bipush 20, 2) := by decide +kernel
theorem dd_M_init_154 : decode bb_M_init 154 = .ok (.if_icmp .ge 18, 3) := by decide +kernel
theorem dd_M_init_157 : decode bb_M_init 157 = .ok (.aload_n 0, 1) := by decide +kernel
theorem dd_M_init_158 : decode bb_M_init 158 = .ok (.getfield 38, 3) := by decide +kernel
theorem dd_M_init_161 : decode bb_M_init 161 = .ok (.iload_n 1, 1) := by decide +kernel
theorem dd_M_init_162 : decode bb_M_init 162 = .ok (.sipush 20000, 3) := by decide +kernel
theorem dd_M_init_165 : decode bb_M_init 165 = .ok (.iastore, 1) := by decide +kernel
theorem dd_M_init_166 : decode bb_M_init 166 = .ok (.iinc 1 1, 3) := by decide +kernel
theorem dd_M_init_169 : decode bb_M_init 169 = .ok (.goto (-18), 3) := by decide +kernel
theorem dd_M_init_172 : decode bb_M_init 172 = .ok (.return_, 1) := by decide +kernel
theorem dd_M_thrown_0 : decode bb_M_thrown 0 = .ok (.aload_n 0, 1) := by decide +kernel
theorem dd_M_thrown_1 : decode bb_M_thrown 1 = .ok (.getfield 65, 3) := by decide +kernel
theorem dd_M_thrown_4 : decode bb_M_thrown 4 = .ok (.ireturn, 1) := by decide +kernel
theorem dd_M_in_0 : decode bb_M_in 0 = .ok (.iload_n 0, 1) := by decide +kernel
theorem dd_M_in_1 : decode bb_M_in 1 = .ok (.iload_n 1, 1) := by decide +kernel
theorem dd_M_in_2 : decode bb_M_in 2 = .ok (.if_icmp .lt 12, 3) := by decide +kernel
theorem dd_M_in_5 : decode bb_M_in 5 = .ok (.iload_n 0, 1) := by decide +kernel
theorem dd_M_in_6 : decode bb_M_in 6 = .ok (.iload_n 2, 1) := by decide +kernel
theorem dd_M_in_7 : decode bb_M_in 7 = .ok (.if_icmp .gt 7, 3) := by decide +kernel
theorem dd_M_in_10 : decode bb_M_in 10 = .ok (.iconst 1, 1) := by decide +kernel
theorem dd_M_in_11 : decode bb_M_in 11 = .ok (.goto 4, 3) := by decide +kernel
theorem dd_M_in_14 : decode bb_M_in 14 = .ok (.iconst 0, 1) := by decide +kernel
theorem dd_M_in_15 : decode bb_M_in 15 = .ok (.ireturn, 1) := by decide +kernel
theorem dd_M_goes_0 : decode bb_M_goes 0 = .ok (.aload_n 0, 1) := by decide +kernel
theorem dd_M_goes_1 : decode bb_M_goes 1 = .ok (.iload_n 1, 1) := by decide +kernel
theorem dd_M_goes_2 : decode bb_M_goes 2 = .ok (.ifCond .ne 7, 3) := by decide +kernel
theorem dd_M_goes_5 : decode bb_M_goes 5 = .ok (.iconst 1, 1) := by decide +kernel
theorem dd_M_goes_6 : decode bb_M_goes 6 = .ok (.goto 29, 3) := by decide +kernel
theorem dd_M_goes_9 : decode bb_M_goes 9 = .ok (.iload_n 2, 1) := by decide +kernel
theorem dd_M_goes_10 : decode bb_M_goes 10 = .ok (.ifCond .ne 7, 3) := by decide +kernel
theorem dd_M_goes_13 : decode bb_M_goes 13 = .ok (.iconst 2, 1) := by decide +kernel
theorem dd_M_goes_14 : decode bb_M_goes 14 = .ok (.goto 21, 3) := by decide +kernel
theorem dd_M_goes_17 : decode bb_M_goes 17 = .ok (.iload_n 3, 1) := by decide +kernel
theorem dd_M_goes_18 : decode bb_M_goes 18 = .ok (.ifCond .ne 7, 3) := by decide +kernel
theorem dd_M_goes_21 : decode bb_M_goes 21 = .ok (.iconst 3, 1) := by decide +kernel
theorem dd_M_goes_22 : decode bb_M_goes 22 = .ok (.goto 13, 3) := by decide +kernel
theorem dd_M_goes_25 : decode bb_M_goes 25 = .ok (.iload 4, 2) := by decide +kernel
theorem dd_M_goes_27 : decode bb_M_goes 27 = .ok (.ifCond .ne 7, 3) := by decide +kernel
theorem dd_M_goes_30 : decode bb_M_goes 30 = .ok (.iconst 4, 1) := by decide +kernel
theorem dd_M_goes_31 : decode bb_M_goes 31 = .ok (.goto 4, 3) := by decide +kernel
theorem dd_M_goes_34 : decode bb_M_goes 34 = .ok (.iconst 0, 1) := by decide +kernel
theorem dd_M_goes_35 : decode bb_M_goes 35 = .ok (.putfield 65, 3) := by decide +kernel
theorem dd_M_goes_38 : decode bb_M_goes 38 = .ok (.aload_n 0, 1) := by decide +kernel
theorem dd_M_goes_39 : decode bb_M_goes 39 = .ok (.getfield 65, 3) := by decide +kernel
theorem dd_M_goes_42 : decode bb_M_goes 42 = .ok (.ifCond .ne 7, 3) := by decide +kernel
theorem dd_M_goes_45 : decode bb_M_goes 45 = .ok (.iconst 1, 1) := by decide +kernel
theorem dd_M_goes_46 : decode bb_M_goes 46 = .ok (.goto 4, 3) := by decide +kernel
theorem dd_M_goes_49 : decode bb_M_goes 49 = .ok (.iconst 0, 1) := by decide +kernel
theorem dd_M_goes_50 : decode bb_M_goes 50 = .ok (.ireturn, 1) := by decide +kernel
theorem dd_M_isHydrant_0 : decode bb_M_isHydrant 0 = .ok (.iload_n 1, 1) := by decide +kernel
theorem dd_M_isHydrant_1 : decode bb_M_isHydrant 1 = .ok (.iconst 0, 1) := by decide +kernel
theorem dd_M_isHydrant_2 : decode bb_M_isHydrant 2 = .ok (.aload_n 0, 1) := by decide +kernel
theorem dd_M_isHydrant_3 : decode bb_M_isHydrant 3 = .ok (.getfield 69, 3) := by decide +kernel
theorem dd_M_isHydrant_6 : decode bb_M_isHydrant 6 = .ok (.iconst 1, 1) := by decide +kernel
theorem dd_M_isHydrant_7 : decode bb_M_isHydrant 7 = .ok (.isub, 1) := by decide +kernel
theorem dd_M_isHydrant_8 : decode bb_M_isHydrant 8 = .ok (.invokestatic 72, 3) := by decide +kernel
theorem dd_M_isHydrant_11 : decode bb_M_isHydrant 11 = .ok (.ireturn, 1) := by decide +kernel
theorem dd_M_isPlace_0 : decode bb_M_isPlace 0 = .ok (.iload_n 0, 1) := by decide +kernel
theorem dd_M_isPlace_1 : decode bb_M_isPlace 1 = .ok (.ldc 76, 2) := by decide +kernel
theorem dd_M_isPlace_3 : decode bb_M_isPlace 3 = .ok (.ldc 77, 2) := by decide +kernel
theorem dd_M_isPlace_5 : decode bb_M_isPlace 5 = .ok (.invokestatic 72, 3) := by decide +kernel
theorem dd_M_isPlace_8 : decode bb_M_isPlace 8 = .ok (.ifCond .eq 18, 3) := by decide +kernel
theorem dd_M_isPlace_11 : decode bb_M_isPlace 11 = .ok (.iload_n 1, 1) := by decide +kernel
theorem dd_M_isPlace_12 : decode bb_M_isPlace 12 = .ok (.ldc 76, 2) := by decide +kernel
theorem dd_M_isPlace_14 : decode bb_M_isPlace 14 = .ok (.ldc 77, 2) := by decide +kernel
theorem dd_M_isPlace_16 : decode bb_M_isPlace 16 = .ok (.invokestatic 72, 3) := by decide +kernel
theorem dd_M_isPlace_19 : decode bb_M_isPlace 19 = .ok (.ifCond .eq 7, 3) := by decide +kernel
theorem dd_M_isPlace_22 : decode bb_M_isPlace 22 = .ok (.iconst 1, 1) := by decide +kernel
theorem dd_M_isPlace_23 : decode bb_M_isPlace 23 = .ok (.goto 4, 3) := by decide +kernel
theorem dd_M_isPlace_26 : decode bb_M_isPlace 26 = .ok (.iconst 0, 1) := by decide +kernel
theorem dd_M_isPlace_27 : decode bb_M_isPlace 27 = .ok (.ireturn, 1) := by decide +kernel
theorem dd_M_isDay_0 : decode bb_M_isDay 0 = .ok (.iload_n 0, 1) := by decide +kernel
theorem dd_M_isDay_1 : decode bb_M_isDay 1 = .ok (.iconst 0, 1) := by decide +kernel
theorem dd_M_isDay_2 : decode bb_M_isDay 2 = .ok (.ldc 78, 2) := by decide +kernel
theorem dd_M_isDay_4 : decode bb_M_isDay 4 = .ok (.invokestatic 72, 3) := by decide +kernel
theorem dd_M_isDay_7 : decode bb_M_isDay 7 = .ok (.ireturn, 1) := by decide +kernel
theorem dd_M_isPressure_0 : decode bb_M_isPressure 0 = .ok (.iload_n 0, 1) := by decide +kernel
theorem dd_M_isPressure_1 : decode bb_M_isPressure 1 = .ok (.iconst 0, 1) := by decide +kernel
theorem dd_M_isPressure_2 : decode bb_M_isPressure 2 = .ok (.sipush 2000, 3) := by decide +kernel
theorem dd_M_isPressure_5 : decode bb_M_isPressure 5 = .ok (.invokestatic 72, 3) := by decide +kernel
theorem dd_M_isPressure_8 : decode bb_M_isPressure 8 = .ok (.ireturn, 1) := by decide +kernel
theorem dd_M_isFlow_0 : decode bb_M_isFlow 0 = .ok (.iload_n 0, 1) := by decide +kernel
theorem dd_M_isFlow_1 : decode bb_M_isFlow 1 = .ok (.iconst 0, 1) := by decide +kernel
theorem dd_M_isFlow_2 : decode bb_M_isFlow 2 = .ok (.sipush 20000, 3) := by decide +kernel
theorem dd_M_isFlow_5 : decode bb_M_isFlow 5 = .ok (.invokestatic 72, 3) := by decide +kernel
theorem dd_M_isFlow_8 : decode bb_M_isFlow 8 = .ok (.ireturn, 1) := by decide +kernel
theorem dd_M_hydrant_0 : decode bb_M_hydrant 0 = .ok (.aload_n 0, 1) := by decide +kernel
theorem dd_M_hydrant_1 : decode bb_M_hydrant 1 = .ok (.iload_n 3, 1) := by decide +kernel
theorem dd_M_hydrant_2 : decode bb_M_hydrant 2 = .ok (.iconst 0, 1) := by decide +kernel
theorem dd_M_hydrant_3 : decode bb_M_hydrant 3 = .ok (.bipush 19, 2) := by decide +kernel
theorem dd_M_hydrant_5 : decode bb_M_hydrant 5 = .ok (.invokestatic 72, 3) := by decide +kernel
theorem dd_M_hydrant_8 : decode bb_M_hydrant 8 = .ok (.ifCond .eq 17, 3) := by decide +kernel
theorem dd_M_hydrant_11 : decode bb_M_hydrant 11 = .ok (.iload 4, 2) := by decide +kernel
theorem dd_M_hydrant_13 : decode bb_M_hydrant 13 = .ok (.iconst 0, 1) := by decide +kernel
theorem dd_M_hydrant_14 : decode bb_M_hydrant 14 = .ok (.iconst 2, 1) := by decide +kernel
theorem dd_M_hydrant_15 : decode bb_M_hydrant 15 = .ok (.invokestatic 72, 3) := by decide +kernel
theorem dd_M_hydrant_18 : decode bb_M_hydrant 18 = .ok (.ifCond .eq 7, 3) := by decide +kernel
theorem dd_M_hydrant_21 : decode bb_M_hydrant 21 = .ok (.iconst 1, 1) := by decide +kernel
theorem dd_M_hydrant_22 : decode bb_M_hydrant 22 = .ok (.goto 4, 3) := by decide +kernel
theorem dd_M_hydrant_25 : decode bb_M_hydrant 25 = .ok (.iconst 0, 1) := by decide +kernel
theorem dd_M_hydrant_26 : decode bb_M_hydrant 26 = .ok (.iload_n 1, 1) := by decide +kernel
theorem dd_M_hydrant_27 : decode bb_M_hydrant 27 = .ok (.iload_n 2, 1) := by decide +kernel
theorem dd_M_hydrant_28 : decode bb_M_hydrant 28 = .ok (.invokestatic 79, 3) := by decide +kernel
theorem dd_M_hydrant_31 : decode bb_M_hydrant 31 = .ok (.aload_n 0, 1) := by decide +kernel
theorem dd_M_hydrant_32 : decode bb_M_hydrant 32 = .ok (.getfield 69, 3) := by decide +kernel
theorem dd_M_hydrant_35 : decode bb_M_hydrant 35 = .ok (.bipush 40, 2) := by decide +kernel
theorem dd_M_hydrant_37 : decode bb_M_hydrant 37 = .ok (.if_icmp .ge 7, 3) := by decide +kernel
theorem dd_M_hydrant_40 : decode bb_M_hydrant 40 = .ok (.iconst 1, 1) := by decide +kernel
theorem dd_M_hydrant_41 : decode bb_M_hydrant 41 = .ok (.goto 4, 3) := by decide +kernel
theorem dd_M_hydrant_44 : decode bb_M_hydrant 44 = .ok (.iconst 0, 1) := by decide +kernel
theorem dd_M_hydrant_45 : decode bb_M_hydrant 45 = .ok (.iconst 1, 1) := by decide +kernel
theorem dd_M_hydrant_46 : decode bb_M_hydrant 46 = .ok (.invokevirtual 83, 3) := by decide +kernel
theorem dd_M_hydrant_49 : decode bb_M_hydrant 49 = .ok (.ifCond .ne 5, 3) := by decide +kernel
theorem dd_M_hydrant_52 : decode bb_M_hydrant 52 = .ok (.iconst 0, 1) := by decide +kernel
theorem dd_M_hydrant_53 : decode bb_M_hydrant 53 = .ok (.ireturn, 1) := by decide +kernel
theorem dd_M_hydrant_54 : decode bb_M_hydrant 54 = .ok (.aload_n 0, 1) := by decide +kernel
theorem dd_M_hydrant_55 : decode bb_M_hydrant 55 = .ok (.getfield 7, 3) := by decide +kernel
theorem dd_M_hydrant_58 : decode bb_M_hydrant 58 = .ok (.aload_n 0, 1) := by decide +kernel
theorem dd_M_hydrant_59 : decode bb_M_hydrant 59 = .ok (.getfield 69, 3) := by decide +kernel
theorem dd_M_hydrant_62 : decode bb_M_hydrant 62 = .ok (.iload_n 1, 1) := by decide +kernel
theorem dd_M_hydrant_63 : decode bb_M_hydrant 63 = .ok (.iastore, 1) := by decide +kernel
theorem dd_M_hydrant_64 : decode bb_M_hydrant 64 = .ok (.aload_n 0, 1) := by decide +kernel
theorem dd_M_hydrant_65 : decode bb_M_hydrant 65 = .ok (.getfield 13, 3) := by decide +kernel
theorem dd_M_hydrant_68 : decode bb_M_hydrant 68 = .ok (.aload_n 0, 1) := by decide +kernel
theorem dd_M_hydrant_69 : decode bb_M_hydrant 69 = .ok (.getfield 69, 3) := by decide +kernel
theorem dd_M_hydrant_72 : decode bb_M_hydrant 72 = .ok (.iload_n 2, 1) := by decide +kernel
theorem dd_M_hydrant_73 : decode bb_M_hydrant 73 = .ok (.iastore, 1) := by decide +kernel
theorem dd_M_hydrant_74 : decode bb_M_hydrant 74 = .ok (.aload_n 0, 1) := by decide +kernel
theorem dd_M_hydrant_75 : decode bb_M_hydrant 75 = .ok (.getfield 16, 3) := by decide +kernel
theorem dd_M_hydrant_78 : decode bb_M_hydrant 78 = .ok (.aload_n 0, 1) := by decide +kernel
theorem dd_M_hydrant_79 : decode bb_M_hydrant 79 = .ok (.getfield 69, 3) := by decide +kernel
theorem dd_M_hydrant_82 : decode bb_M_hydrant 82 = .ok (.iload_n 3, 1) := by decide +kernel
theorem dd_M_hydrant_83 : decode bb_M_hydrant 83 = .ok (.iastore, 1) := by decide +kernel
theorem dd_M_hydrant_84 : decode bb_M_hydrant 84 = .ok (.aload_n 0, 1) := by decide +kernel
theorem dd_M_hydrant_85 : decode bb_M_hydrant 85 = .ok (.getfield 19, 3) := by decide +kernel
theorem dd_M_hydrant_88 : decode bb_M_hydrant 88 = .ok (.aload_n 0, 1) := by decide +kernel
theorem dd_M_hydrant_89 : decode bb_M_hydrant 89 = .ok (.getfield 69, 3) := by decide +kernel
theorem dd_M_hydrant_92 : decode bb_M_hydrant 92 = .ok (.iload 4, 2) := by decide +kernel
theorem dd_M_hydrant_94 : decode bb_M_hydrant 94 = .ok (.iastore, 1) := by decide +kernel
theorem dd_M_hydrant_95 : decode bb_M_hydrant 95 = .ok (.aload_n 0, 1) := by decide +kernel
theorem dd_M_hydrant_96 : decode bb_M_hydrant 96 = .ok (.dup, 1) := by decide +kernel
theorem dd_M_hydrant_97 : decode bb_M_hydrant 97 = .ok (.getfield 69, 3) := by decide +kernel
theorem dd_M_hydrant_100 : decode bb_M_hydrant 100 = .ok (.iconst 1, 1) := by decide +kernel
theorem dd_M_hydrant_101 : decode bb_M_hydrant 101 = .ok (.iadd, 1) := by decide +kernel
theorem dd_M_hydrant_102 : decode bb_M_hydrant 102 = .ok (.putfield 69, 3) := by decide +kernel
theorem dd_M_hydrant_105 : decode bb_M_hydrant 105 = .ok (.aload_n 0, 1) := by decide +kernel
theorem dd_M_hydrant_106 : decode bb_M_hydrant 106 = .ok (.getfield 69, 3) := by decide +kernel
theorem dd_M_hydrant_109 : decode bb_M_hydrant 109 = .ok (.iconst 1, 1) := by decide +kernel
theorem dd_M_hydrant_110 : decode bb_M_hydrant 110 = .ok (.isub, 1) := by decide +kernel
theorem dd_M_hydrant_111 : decode bb_M_hydrant 111 = .ok (.ireturn, 1) := by decide +kernel
theorem dd_M_limit_0 : decode bb_M_limit 0 = .ok (.aload_n 0, 1) := by decide +kernel
theorem dd_M_limit_1 : decode bb_M_limit 1 = .ok (.iload_n 1, 1) := by decide +kernel
theorem dd_M_limit_2 : decode bb_M_limit 2 = .ok (.iconst 0, 1) := by decide +kernel
theorem dd_M_limit_3 : decode bb_M_limit 3 = .ok (.bipush 19, 2) := by decide +kernel
theorem dd_M_limit_5 : decode bb_M_limit 5 = .ok (.invokestatic 72, 3) := by decide +kernel
theorem dd_M_limit_8 : decode bb_M_limit 8 = .ok (.iload_n 2, 1) := by decide +kernel
theorem dd_M_limit_9 : decode bb_M_limit 9 = .ok (.invokestatic 87, 3) := by decide +kernel
theorem dd_M_limit_12 : decode bb_M_limit 12 = .ok (.iconst 1, 1) := by decide +kernel
theorem dd_M_limit_13 : decode bb_M_limit 13 = .ok (.iconst 1, 1) := by decide +kernel
theorem dd_M_limit_14 : decode bb_M_limit 14 = .ok (.invokevirtual 83, 3) := by decide +kernel
theorem dd_M_limit_17 : decode bb_M_limit 17 = .ok (.ifCond .eq 10, 3) := by decide +kernel
theorem dd_M_limit_20 : decode bb_M_limit 20 = .ok (.aload_n 0, 1) := by decide +kernel
theorem dd_M_limit_21 : decode bb_M_limit 21 = .ok (.getfield 38, 3) := by decide +kernel
theorem dd_M_limit_24 : decode bb_M_limit 24 = .ok (.iload_n 1, 1) := by decide +kernel
theorem dd_M_limit_25 : decode bb_M_limit 25 = .ok (.iload_n 2, 1) := by decide +kernel
theorem dd_M_limit_26 : decode bb_M_limit 26 = .ok (.iastore, 1) := by decide +kernel
theorem dd_M_limit_27 : decode bb_M_limit 27 = .ok (.return_, 1) := by decide +kernel
theorem dd_M_allow_0 : decode bb_M_allow 0 = .ok (.aload_n 0, 1) := by decide +kernel
theorem dd_M_allow_1 : decode bb_M_allow 1 = .ok (.iconst 0, 1) := by decide +kernel
theorem dd_M_allow_2 : decode bb_M_allow 2 = .ok (.putfield 65, 3) := by decide +kernel
theorem dd_M_allow_5 : decode bb_M_allow 5 = .ok (.aload_n 0, 1) := by decide +kernel
theorem dd_M_allow_6 : decode bb_M_allow 6 = .ok (.iload_n 1, 1) := by decide +kernel
theorem dd_M_allow_7 : decode bb_M_allow 7 = .ok (.putfield 91, 3) := by decide +kernel
theorem dd_M_allow_10 : decode bb_M_allow 10 = .ok (.return_, 1) := by decide +kernel
theorem dd_M_test_0 : decode bb_M_test 0 = .ok (.aload_n 0, 1) := by decide +kernel
theorem dd_M_test_1 : decode bb_M_test 1 = .ok (.aload_n 0, 1) := by decide +kernel
theorem dd_M_test_2 : decode bb_M_test 2 = .ok (.iload_n 1, 1) := by decide +kernel
theorem dd_M_test_3 : decode bb_M_test 3 = .ok (.invokevirtual 95, 3) := by decide +kernel
theorem dd_M_test_6 : decode bb_M_test 6 = .ok (.iload_n 2, 1) := by decide +kernel
theorem dd_M_test_7 : decode bb_M_test 7 = .ok (.invokestatic 98, 3) := by decide +kernel
theorem dd_M_test_10 : decode bb_M_test 10 = .ok (.ifCond .eq 30, 3) := by decide +kernel
theorem dd_M_test_13 : decode bb_M_test 13 = .ok (.iload_n 3, 1) := by decide +kernel
theorem dd_M_test_14 : decode bb_M_test 14 = .ok (.invokestatic 101, 3) := by decide +kernel
theorem dd_M_test_17 : decode bb_M_test 17 = .ok (.ifCond .eq 23, 3) := by decide +kernel
theorem dd_M_test_20 : decode bb_M_test 20 = .ok (.iload 4, 2) := by decide +kernel
theorem dd_M_test_22 : decode bb_M_test 22 = .ok (.invokestatic 87, 3) := by decide +kernel
theorem dd_M_test_25 : decode bb_M_test 25 = .ok (.ifCond .eq 15, 3) := by decide +kernel
theorem dd_M_test_28 : decode bb_M_test 28 = .ok (.iload 5, 2) := by decide +kernel
theorem dd_M_test_30 : decode bb_M_test 30 = .ok (.invokestatic 101, 3) := by decide +kernel
theorem dd_M_test_33 : decode bb_M_test 33 = .ok (.ifCond .eq 7, 3) := by decide +kernel
theorem dd_M_test_36 : decode bb_M_test 36 = .ok (.iconst 1, 1) := by decide +kernel
theorem dd_M_test_37 : decode bb_M_test 37 = .ok (.goto 4, 3) := by decide +kernel
theorem dd_M_test_40 : decode bb_M_test 40 = .ok (.iconst 0, 1) := by decide +kernel
theorem dd_M_test_41 : decode bb_M_test 41 = .ok (.iload 5, 2) := by decide +kernel
theorem dd_M_test_43 : decode bb_M_test 43 = .ok (.iload_n 3, 1) := by decide +kernel
theorem dd_M_test_44 : decode bb_M_test 44 = .ok (.if_icmp .gt 7, 3) := by decide +kernel
theorem dd_M_test_47 : decode bb_M_test 47 = .ok (.iconst 1, 1) := by decide +kernel
theorem dd_M_test_48 : decode bb_M_test 48 = .ok (.goto 4, 3) := by decide +kernel
theorem dd_M_test_51 : decode bb_M_test 51 = .ok (.iconst 0, 1) := by decide +kernel
theorem dd_M_test_52 : decode bb_M_test 52 = .ok (.aload_n 0, 1) := by decide +kernel
theorem dd_M_test_53 : decode bb_M_test 53 = .ok (.getfield 104, 3) := by decide +kernel
theorem dd_M_test_56 : decode bb_M_test 56 = .ok (.bipush 100, 2) := by decide +kernel
theorem dd_M_test_58 : decode bb_M_test 58 = .ok (.if_icmp .ge 7, 3) := by decide +kernel
theorem dd_M_test_61 : decode bb_M_test 61 = .ok (.iconst 1, 1) := by decide +kernel
theorem dd_M_test_62 : decode bb_M_test 62 = .ok (.goto 4, 3) := by decide +kernel
theorem dd_M_test_65 : decode bb_M_test 65 = .ok (.iconst 0, 1) := by decide +kernel
theorem dd_M_test_66 : decode bb_M_test 66 = .ok (.invokevirtual 83, 3) := by decide +kernel
theorem dd_M_test_69 : decode bb_M_test 69 = .ok (.ifCond .ne 5, 3) := by decide +kernel
theorem dd_M_test_72 : decode bb_M_test 72 = .ok (.iconst 0, 1) := by decide +kernel
theorem dd_M_test_73 : decode bb_M_test 73 = .ok (.ireturn, 1) := by decide +kernel
theorem dd_M_test_74 : decode bb_M_test 74 = .ok (.aload_n 0, 1) := by decide +kernel
theorem dd_M_test_75 : decode bb_M_test 75 = .ok (.getfield 41, 3) := by decide +kernel
theorem dd_M_test_78 : decode bb_M_test 78 = .ok (.aload_n 0, 1) := by decide +kernel
theorem dd_M_test_79 : decode bb_M_test 79 = .ok (.getfield 104, 3) := by decide +kernel
theorem dd_M_test_82 : decode bb_M_test 82 = .ok (.iload_n 1, 1) := by decide +kernel
theorem dd_M_test_83 : decode bb_M_test 83 = .ok (.iastore, 1) := by decide +kernel
theorem dd_M_test_84 : decode bb_M_test 84 = .ok (.aload_n 0, 1) := by decide +kernel
theorem dd_M_test_85 : decode bb_M_test 85 = .ok (.getfield 44, 3) := by decide +kernel
theorem dd_M_test_88 : decode bb_M_test 88 = .ok (.aload_n 0, 1) := by decide +kernel
theorem dd_M_test_89 : decode bb_M_test 89 = .ok (.getfield 104, 3) := by decide +kernel
theorem dd_M_test_92 : decode bb_M_test 92 = .ok (.iload_n 2, 1) := by decide +kernel
theorem dd_M_test_93 : decode bb_M_test 93 = .ok (.iastore, 1) := by decide +kernel
theorem dd_M_test_94 : decode bb_M_test 94 = .ok (.aload_n 0, 1) := by decide +kernel
theorem dd_M_test_95 : decode bb_M_test 95 = .ok (.getfield 47, 3) := by decide +kernel
theorem dd_M_test_98 : decode bb_M_test 98 = .ok (.aload_n 0, 1) := by decide +kernel
theorem dd_M_test_99 : decode bb_M_test 99 = .ok (.getfield 104, 3) := by decide +kernel
theorem dd_M_test_102 : decode bb_M_test 102 = .ok (.iload_n 3, 1) := by decide +kernel
theorem dd_M_test_103 : decode bb_M_test 103 = .ok (.iastore, 1) := by decide +kernel
theorem dd_M_test_104 : decode bb_M_test 104 = .ok (.aload_n 0, 1) := by decide +kernel
theorem dd_M_test_105 : decode bb_M_test 105 = .ok (.getfield 50, 3) := by decide +kernel
theorem dd_M_test_108 : decode bb_M_test 108 = .ok (.aload_n 0, 1) := by decide +kernel
theorem dd_M_test_109 : decode bb_M_test 109 = .ok (.getfield 104, 3) := by decide +kernel
theorem dd_M_test_112 : decode bb_M_test 112 = .ok (.iload 4, 2) := by decide +kernel
theorem dd_M_test_114 : decode bb_M_test 114 = .ok (.iastore, 1) := by decide +kernel
theorem dd_M_test_115 : decode bb_M_test 115 = .ok (.aload_n 0, 1) := by decide +kernel
theorem dd_M_test_116 : decode bb_M_test 116 = .ok (.getfield 53, 3) := by decide +kernel
theorem dd_M_test_119 : decode bb_M_test 119 = .ok (.aload_n 0, 1) := by decide +kernel
theorem dd_M_test_120 : decode bb_M_test 120 = .ok (.getfield 104, 3) := by decide +kernel
theorem dd_M_test_123 : decode bb_M_test 123 = .ok (.iload 5, 2) := by decide +kernel
theorem dd_M_test_125 : decode bb_M_test 125 = .ok (.iastore, 1) := by decide +kernel
theorem dd_M_test_126 : decode bb_M_test 126 = .ok (.aload_n 0, 1) := by decide +kernel
theorem dd_M_test_127 : decode bb_M_test 127 = .ok (.dup, 1) := by decide +kernel
theorem dd_M_test_128 : decode bb_M_test 128 = .ok (.getfield 104, 3) := by decide +kernel
theorem dd_M_test_131 : decode bb_M_test 131 = .ok (.iconst 1, 1) := by decide +kernel
theorem dd_M_test_132 : decode bb_M_test 132 = .ok (.iadd, 1) := by decide +kernel
theorem dd_M_test_133 : decode bb_M_test 133 = .ok (.putfield 104, 3) := by decide +kernel
theorem dd_M_test_136 : decode bb_M_test 136 = .ok (.aload_n 0, 1) := by decide +kernel
theorem dd_M_test_137 : decode bb_M_test 137 = .ok (.getfield 104, 3) := by decide +kernel
theorem dd_M_test_140 : decode bb_M_test 140 = .ok (.iconst 1, 1) := by decide +kernel
theorem dd_M_test_141 : decode bb_M_test 141 = .ok (.isub, 1) := by decide +kernel
theorem dd_M_test_142 : decode bb_M_test 142 = .ok (.ireturn, 1) := by decide +kernel
theorem dd_M_counts_0 : decode bb_M_counts 0 = .ok (.iconst (-1), 1) := by decide +kernel
theorem dd_M_counts_1 : decode bb_M_counts 1 = .ok (.istore_n 2, 1) := by decide +kernel
theorem dd_M_counts_2 : decode bb_M_counts 2 = .ok (.iconst 0, 1) := by decide +kernel
theorem dd_M_counts_3 : decode bb_M_counts 3 = .ok (.istore_n 3, 1) := by decide +kernel
theorem dd_M_counts_4 : decode bb_M_counts 4 = .ok (.iload_n 3, 1) := by decide +kernel
theorem dd_M_counts_5 : decode bb_M_counts 5 = .ok (.aload_n 0, 1) := by decide +kernel
theorem dd_M_counts_6 : decode bb_M_counts 6 = .ok (.getfield 104, 3) := by decide +kernel
theorem dd_M_counts_9 : decode bb_M_counts 9 = .ok (.if_icmp .ge 40, 3) := by decide +kernel
theorem dd_M_counts_12 : decode bb_M_counts 12 = .ok (.aload_n 0, 1) := by decide +kernel
theorem dd_M_counts_13 : decode bb_M_counts 13 = .ok (.getfield 41, 3) := by decide +kernel
theorem dd_M_counts_16 : decode bb_M_counts 16 = .ok (.iload_n 3, 1) := by decide +kernel
theorem dd_M_counts_17 : decode bb_M_counts 17 = .ok (.iaload, 1) := by decide +kernel
theorem dd_M_counts_18 : decode bb_M_counts 18 = .ok (.iload_n 1, 1) := by decide +kernel
theorem dd_M_counts_19 : decode bb_M_counts 19 = .ok (.if_icmp .ne 24, 3) := by decide +kernel
theorem dd_M_counts_22 : decode bb_M_counts 22 = .ok (.iload_n 2, 1) := by decide +kernel
theorem dd_M_counts_23 : decode bb_M_counts 23 = .ok (.ifCond .lt 18, 3) := by decide +kernel
theorem dd_M_counts_26 : decode bb_M_counts 26 = .ok (.aload_n 0, 1) := by decide +kernel
theorem dd_M_counts_27 : decode bb_M_counts 27 = .ok (.getfield 44, 3) := by decide +kernel
theorem dd_M_counts_30 : decode bb_M_counts 30 = .ok (.iload_n 3, 1) := by decide +kernel
theorem dd_M_counts_31 : decode bb_M_counts 31 = .ok (.iaload, 1) := by decide +kernel
theorem dd_M_counts_32 : decode bb_M_counts 32 = .ok (.aload_n 0, 1) := by decide +kernel
theorem dd_M_counts_33 : decode bb_M_counts 33 = .ok (.getfield 44, 3) := by decide +kernel
theorem dd_M_counts_36 : decode bb_M_counts 36 = .ok (.iload_n 2, 1) := by decide +kernel
theorem dd_M_counts_37 : decode bb_M_counts 37 = .ok (.iaload, 1) := by decide +kernel
theorem dd_M_counts_38 : decode bb_M_counts 38 = .ok (.if_icmp .lt 5, 3) := by decide +kernel
theorem dd_M_counts_41 : decode bb_M_counts 41 = .ok (.iload_n 3, 1) := by decide +kernel
theorem dd_M_counts_42 : decode bb_M_counts 42 = .ok (.istore_n 2, 1) := by decide +kernel
theorem dd_M_counts_43 : decode bb_M_counts 43 = .ok (.iinc 3 1, 3) := by decide +kernel
theorem dd_M_counts_46 : decode bb_M_counts 46 = .ok (.goto (-42), 3) := by decide +kernel
theorem dd_M_counts_49 : decode bb_M_counts 49 = .ok (.iload_n 2, 1) := by decide +kernel
theorem dd_M_counts_50 : decode bb_M_counts 50 = .ok (.ireturn, 1) := by decide +kernel
theorem dd_M_canTell_0 : decode bb_M_canTell 0 = .ok (.iload_n 2, 1) := by decide +kernel
theorem dd_M_canTell_1 : decode bb_M_canTell 1 = .ok (.aload_n 0, 1) := by decide +kernel
theorem dd_M_canTell_2 : decode bb_M_canTell 2 = .ok (.getfield 47, 3) := by decide +kernel
theorem dd_M_canTell_5 : decode bb_M_canTell 5 = .ok (.iload_n 1, 1) := by decide +kernel
theorem dd_M_canTell_6 : decode bb_M_canTell 6 = .ok (.iaload, 1) := by decide +kernel
theorem dd_M_canTell_7 : decode bb_M_canTell 7 = .ok (.if_icmp .ge 18, 3) := by decide +kernel
theorem dd_M_canTell_10 : decode bb_M_canTell 10 = .ok (.aload_n 0, 1) := by decide +kernel
theorem dd_M_canTell_11 : decode bb_M_canTell 11 = .ok (.getfield 47, 3) := by decide +kernel
theorem dd_M_canTell_14 : decode bb_M_canTell 14 = .ok (.iload_n 1, 1) := by decide +kernel
theorem dd_M_canTell_15 : decode bb_M_canTell 15 = .ok (.iaload, 1) := by decide +kernel
theorem dd_M_canTell_16 : decode bb_M_canTell 16 = .ok (.aload_n 0, 1) := by decide +kernel
theorem dd_M_canTell_17 : decode bb_M_canTell 17 = .ok (.getfield 53, 3) := by decide +kernel
theorem dd_M_canTell_20 : decode bb_M_canTell 20 = .ok (.iload_n 1, 1) := by decide +kernel
theorem dd_M_canTell_21 : decode bb_M_canTell 21 = .ok (.iaload, 1) := by decide +kernel
theorem dd_M_canTell_22 : decode bb_M_canTell 22 = .ok (.if_icmp .le 7, 3) := by decide +kernel
theorem dd_M_canTell_25 : decode bb_M_canTell 25 = .ok (.iconst 1, 1) := by decide +kernel
theorem dd_M_canTell_26 : decode bb_M_canTell 26 = .ok (.goto 4, 3) := by decide +kernel
theorem dd_M_canTell_29 : decode bb_M_canTell 29 = .ok (.iconst 0, 1) := by decide +kernel
theorem dd_M_canTell_30 : decode bb_M_canTell 30 = .ok (.ireturn, 1) := by decide +kernel
theorem dd_M_up_0 : decode bb_M_up 0 = .ok (.iload_n 2, 1) := by decide +kernel
theorem dd_M_up_1 : decode bb_M_up 1 = .ok (.aload_n 0, 1) := by decide +kernel
theorem dd_M_up_2 : decode bb_M_up 2 = .ok (.getfield 47, 3) := by decide +kernel
theorem dd_M_up_5 : decode bb_M_up 5 = .ok (.iload_n 1, 1) := by decide +kernel
theorem dd_M_up_6 : decode bb_M_up 6 = .ok (.iaload, 1) := by decide +kernel
theorem dd_M_up_7 : decode bb_M_up 7 = .ok (.if_icmp .lt 7, 3) := by decide +kernel
theorem dd_M_up_10 : decode bb_M_up 10 = .ok (.iconst 0, 1) := by decide +kernel
theorem dd_M_up_11 : decode bb_M_up 11 = .ok (.goto 18, 3) := by decide +kernel
theorem dd_M_up_14 : decode bb_M_up 14 = .ok (.aload_n 0, 1) := by decide +kernel
theorem dd_M_up_15 : decode bb_M_up 15 = .ok (.getfield 50, 3) := by decide +kernel
theorem dd_M_up_18 : decode bb_M_up 18 = .ok (.iload_n 1, 1) := by decide +kernel
theorem dd_M_up_19 : decode bb_M_up 19 = .ok (.iaload, 1) := by decide +kernel
theorem dd_M_up_20 : decode bb_M_up 20 = .ok (.aload_n 0, 1) := by decide +kernel
theorem dd_M_up_21 : decode bb_M_up 21 = .ok (.getfield 47, 3) := by decide +kernel
theorem dd_M_up_24 : decode bb_M_up 24 = .ok (.iload_n 1, 1) := by decide +kernel
theorem dd_M_up_25 : decode bb_M_up 25 = .ok (.iaload, 1) := by decide +kernel
theorem dd_M_up_26 : decode bb_M_up 26 = .ok (.iload_n 2, 1) := by decide +kernel
theorem dd_M_up_27 : decode bb_M_up 27 = .ok (.isub, 1) := by decide +kernel
theorem dd_M_up_28 : decode bb_M_up 28 = .ok (.imul, 1) := by decide +kernel
theorem dd_M_up_29 : decode bb_M_up 29 = .ok (.ireturn, 1) := by decide +kernel
theorem dd_M_down_0 : decode bb_M_down 0 = .ok (.iload_n 2, 1) := by decide +kernel
theorem dd_M_down_1 : decode bb_M_down 1 = .ok (.aload_n 0, 1) := by decide +kernel
theorem dd_M_down_2 : decode bb_M_down 2 = .ok (.getfield 47, 3) := by decide +kernel
theorem dd_M_down_5 : decode bb_M_down 5 = .ok (.iload_n 1, 1) := by decide +kernel
theorem dd_M_down_6 : decode bb_M_down 6 = .ok (.iaload, 1) := by decide +kernel
theorem dd_M_down_7 : decode bb_M_down 7 = .ok (.if_icmp .lt 7, 3) := by decide +kernel
theorem dd_M_down_10 : decode bb_M_down 10 = .ok (.iconst 1, 1) := by decide +kernel
theorem dd_M_down_11 : decode bb_M_down 11 = .ok (.goto 16, 3) := by decide +kernel
theorem dd_M_down_14 : decode bb_M_down 14 = .ok (.aload_n 0, 1) := by decide +kernel
theorem dd_M_down_15 : decode bb_M_down 15 = .ok (.getfield 47, 3) := by decide +kernel
theorem dd_M_down_18 : decode bb_M_down 18 = .ok (.iload_n 1, 1) := by decide +kernel
theorem dd_M_down_19 : decode bb_M_down 19 = .ok (.iaload, 1) := by decide +kernel
theorem dd_M_down_20 : decode bb_M_down 20 = .ok (.aload_n 0, 1) := by decide +kernel
theorem dd_M_down_21 : decode bb_M_down 21 = .ok (.getfield 53, 3) := by decide +kernel
theorem dd_M_down_24 : decode bb_M_down 24 = .ok (.iload_n 1, 1) := by decide +kernel
theorem dd_M_down_25 : decode bb_M_down 25 = .ok (.iaload, 1) := by decide +kernel
theorem dd_M_down_26 : decode bb_M_down 26 = .ok (.isub, 1) := by decide +kernel
theorem dd_M_down_27 : decode bb_M_down 27 = .ok (.ireturn, 1) := by decide +kernel
theorem dd_M_flow_0 : decode bb_M_flow 0 = .ok (.aload_n 0, 1) := by decide +kernel
theorem dd_M_flow_1 : decode bb_M_flow 1 = .ok (.iload_n 1, 1) := by decide +kernel
theorem dd_M_flow_2 : decode bb_M_flow 2 = .ok (.invokevirtual 95, 3) := by decide +kernel
theorem dd_M_flow_5 : decode bb_M_flow 5 = .ok (.ifCond .eq 11, 3) := by decide +kernel
theorem dd_M_flow_8 : decode bb_M_flow 8 = .ok (.aload_n 0, 1) := by decide +kernel
theorem dd_M_flow_9 : decode bb_M_flow 9 = .ok (.iload_n 1, 1) := by decide +kernel
theorem dd_M_flow_10 : decode bb_M_flow 10 = .ok (.invokevirtual 107, 3) := by decide +kernel
theorem dd_M_flow_13 : decode bb_M_flow 13 = .ok (.goto 4, 3) := by decide +kernel
theorem dd_M_flow_16 : decode bb_M_flow 16 = .ok (.iconst (-1), 1) := by decide +kernel
theorem dd_M_flow_17 : decode bb_M_flow 17 = .ok (.istore 4, 2) := by decide +kernel
theorem dd_M_flow_19 : decode bb_M_flow 19 = .ok (.aload_n 0, 1) := by decide +kernel
theorem dd_M_flow_20 : decode bb_M_flow 20 = .ok (.aload_n 0, 1) := by decide +kernel
theorem dd_M_flow_21 : decode bb_M_flow 21 = .ok (.iload_n 1, 1) := by decide +kernel
theorem dd_M_flow_22 : decode bb_M_flow 22 = .ok (.invokevirtual 95, 3) := by decide +kernel
theorem dd_M_flow_25 : decode bb_M_flow 25 = .ok (.ifCond .eq 16, 3) := by decide +kernel
theorem dd_M_flow_28 : decode bb_M_flow 28 = .ok (.iload_n 3, 1) := by decide +kernel
theorem dd_M_flow_29 : decode bb_M_flow 29 = .ok (.iconst 0, 1) := by decide +kernel
theorem dd_M_flow_30 : decode bb_M_flow 30 = .ok (.iconst 1, 1) := by decide +kernel
theorem dd_M_flow_31 : decode bb_M_flow 31 = .ok (.invokestatic 72, 3) := by decide +kernel
theorem dd_M_flow_34 : decode bb_M_flow 34 = .ok (.ifCond .eq 7, 3) := by decide +kernel
theorem dd_M_flow_37 : decode bb_M_flow 37 = .ok (.iconst 1, 1) := by decide +kernel
theorem dd_M_flow_38 : decode bb_M_flow 38 = .ok (.goto 4, 3) := by decide +kernel
theorem dd_M_flow_41 : decode bb_M_flow 41 = .ok (.iconst 0, 1) := by decide +kernel
theorem dd_M_flow_42 : decode bb_M_flow 42 = .ok (.iload_n 2, 1) := by decide +kernel
theorem dd_M_flow_43 : decode bb_M_flow 43 = .ok (.invokestatic 101, 3) := by decide +kernel
theorem dd_M_flow_46 : decode bb_M_flow 46 = .ok (.iload 4, 2) := by decide +kernel
theorem dd_M_flow_48 : decode bb_M_flow 48 = .ok (.ifCond .lt 7, 3) := by decide +kernel
theorem dd_M_flow_51 : decode bb_M_flow 51 = .ok (.iconst 1, 1) := by decide +kernel
theorem dd_M_flow_52 : decode bb_M_flow 52 = .ok (.goto 4, 3) := by decide +kernel
theorem dd_M_flow_55 : decode bb_M_flow 55 = .ok (.iconst 0, 1) := by decide +kernel
theorem dd_M_flow_56 : decode bb_M_flow 56 = .ok (.iload 4, 2) := by decide +kernel
theorem dd_M_flow_58 : decode bb_M_flow 58 = .ok (.ifCond .lt 17, 3) := by decide +kernel
theorem dd_M_flow_61 : decode bb_M_flow 61 = .ok (.aload_n 0, 1) := by decide +kernel
theorem dd_M_flow_62 : decode bb_M_flow 62 = .ok (.iload 4, 2) := by decide +kernel
theorem dd_M_flow_64 : decode bb_M_flow 64 = .ok (.iload_n 2, 1) := by decide +kernel
theorem dd_M_flow_65 : decode bb_M_flow 65 = .ok (.invokevirtual 111, 3) := by decide +kernel
theorem dd_M_flow_68 : decode bb_M_flow 68 = .ok (.ifCond .eq 7, 3) := by decide +kernel
theorem dd_M_flow_71 : decode bb_M_flow 71 = .ok (.iconst 1, 1) := by decide +kernel
theorem dd_M_flow_72 : decode bb_M_flow 72 = .ok (.goto 4, 3) := by decide +kernel
theorem dd_M_flow_75 : decode bb_M_flow 75 = .ok (.iconst 0, 1) := by decide +kernel
theorem dd_M_flow_76 : decode bb_M_flow 76 = .ok (.invokevirtual 83, 3) := by decide +kernel
theorem dd_M_flow_79 : decode bb_M_flow 79 = .ok (.ifCond .ne 5, 3) := by decide +kernel
theorem dd_M_flow_82 : decode bb_M_flow 82 = .ok (.iconst 0, 1) := by decide +kernel
theorem dd_M_flow_83 : decode bb_M_flow 83 = .ok (.ireturn, 1) := by decide +kernel
theorem dd_M_flow_84 : decode bb_M_flow 84 = .ok (.aload_n 0, 1) := by decide +kernel
theorem dd_M_flow_85 : decode bb_M_flow 85 = .ok (.iload 4, 2) := by decide +kernel
theorem dd_M_flow_87 : decode bb_M_flow 87 = .ok (.iload_n 2, 1) := by decide +kernel
theorem dd_M_flow_88 : decode bb_M_flow 88 = .ok (.invokevirtual 114, 3) := by decide +kernel
theorem dd_M_flow_91 : decode bb_M_flow 91 = .ok (.istore 5, 2) := by decide +kernel
theorem dd_M_flow_93 : decode bb_M_flow 93 = .ok (.aload_n 0, 1) := by decide +kernel
theorem dd_M_flow_94 : decode bb_M_flow 94 = .ok (.iload 4, 2) := by decide +kernel
theorem dd_M_flow_96 : decode bb_M_flow 96 = .ok (.iload_n 2, 1) := by decide +kernel
theorem dd_M_flow_97 : decode bb_M_flow 97 = .ok (.invokevirtual 118, 3) := by decide +kernel
theorem dd_M_flow_100 : decode bb_M_flow 100 = .ok (.istore 6, 2) := by decide +kernel
theorem dd_M_flow_102 : decode bb_M_flow 102 = .ok (.iload 6, 2) := by decide +kernel
theorem dd_M_flow_104 : decode bb_M_flow 104 = .ok (.ifCond .le 21, 3) := by decide +kernel
theorem dd_M_flow_107 : decode bb_M_flow 107 = .ok (.iload 5, 2) := by decide +kernel
theorem dd_M_flow_109 : decode bb_M_flow 109 = .ok (.iload 6, 2) := by decide +kernel
theorem dd_M_flow_111 : decode bb_M_flow 111 = .ok (.irem, 1) := by decide +kernel
theorem dd_M_flow_112 : decode bb_M_flow 112 = .ok (.istore 7, 2) := by decide +kernel
theorem dd_M_flow_114 : decode bb_M_flow 114 = .ok (.iload 6, 2) := by decide +kernel
theorem dd_M_flow_116 : decode bb_M_flow 116 = .ok (.istore 5, 2) := by decide +kernel
theorem dd_M_flow_118 : decode bb_M_flow 118 = .ok (.iload 7, 2) := by decide +kernel
theorem dd_M_flow_120 : decode bb_M_flow 120 = .ok (.istore 6, 2) := by decide +kernel
theorem dd_M_flow_122 : decode bb_M_flow 122 = .ok (.goto (-20), 3) := by decide +kernel
theorem dd_M_flow_125 : decode bb_M_flow 125 = .ok (.iload_n 3, 1) := by decide +kernel
theorem dd_M_flow_126 : decode bb_M_flow 126 = .ok (.ifCond .ne 13, 3) := by decide +kernel
theorem dd_M_flow_129 : decode bb_M_flow 129 = .ok (.aload_n 0, 1) := by decide +kernel
theorem dd_M_flow_130 : decode bb_M_flow 130 = .ok (.iload 4, 2) := by decide +kernel
theorem dd_M_flow_132 : decode bb_M_flow 132 = .ok (.iload_n 2, 1) := by decide +kernel
theorem dd_M_flow_133 : decode bb_M_flow 133 = .ok (.invokevirtual 118, 3) := by decide +kernel
theorem dd_M_flow_136 : decode bb_M_flow 136 = .ok (.goto 10, 3) := by decide +kernel
theorem dd_M_flow_139 : decode bb_M_flow 139 = .ok (.aload_n 0, 1) := by decide +kernel
theorem dd_M_flow_140 : decode bb_M_flow 140 = .ok (.iload 4, 2) := by decide +kernel
theorem dd_M_flow_142 : decode bb_M_flow 142 = .ok (.iload_n 2, 1) := by decide +kernel
theorem dd_M_flow_143 : decode bb_M_flow 143 = .ok (.invokevirtual 114, 3) := by decide +kernel
theorem dd_M_flow_146 : decode bb_M_flow 146 = .ok (.iload 5, 2) := by decide +kernel
theorem dd_M_flow_148 : decode bb_M_flow 148 = .ok (.idiv, 1) := by decide +kernel
theorem dd_M_flow_149 : decode bb_M_flow 149 = .ok (.ireturn, 1) := by decide +kernel
theorem dd_M_sort_0 : decode bb_M_sort 0 = .ok (.aload_n 0, 1) := by decide +kernel
theorem dd_M_sort_1 : decode bb_M_sort 1 = .ok (.iload_n 1, 1) := by decide +kernel
theorem dd_M_sort_2 : decode bb_M_sort 2 = .ok (.invokevirtual 95, 3) := by decide +kernel
theorem dd_M_sort_5 : decode bb_M_sort 5 = .ok (.ifCond .eq 11, 3) := by decide +kernel
theorem dd_M_sort_8 : decode bb_M_sort 8 = .ok (.aload_n 0, 1) := by decide +kernel
theorem dd_M_sort_9 : decode bb_M_sort 9 = .ok (.iload_n 1, 1) := by decide +kernel
theorem dd_M_sort_10 : decode bb_M_sort 10 = .ok (.invokevirtual 107, 3) := by decide +kernel
theorem dd_M_sort_13 : decode bb_M_sort 13 = .ok (.goto 4, 3) := by decide +kernel
theorem dd_M_sort_16 : decode bb_M_sort 16 = .ok (.iconst (-1), 1) := by decide +kernel
theorem dd_M_sort_17 : decode bb_M_sort 17 = .ok (.istore_n 2, 1) := by decide +kernel
theorem dd_M_sort_18 : decode bb_M_sort 18 = .ok (.aload_n 0, 1) := by decide +kernel
theorem dd_M_sort_19 : decode bb_M_sort 19 = .ok (.aload_n 0, 1) := by decide +kernel
theorem dd_M_sort_20 : decode bb_M_sort 20 = .ok (.iload_n 1, 1) := by decide +kernel
theorem dd_M_sort_21 : decode bb_M_sort 21 = .ok (.invokevirtual 95, 3) := by decide +kernel
theorem dd_M_sort_24 : decode bb_M_sort 24 = .ok (.iload_n 2, 1) := by decide +kernel
theorem dd_M_sort_25 : decode bb_M_sort 25 = .ok (.ifCond .lt 7, 3) := by decide +kernel
theorem dd_M_sort_28 : decode bb_M_sort 28 = .ok (.iconst 1, 1) := by decide +kernel
theorem dd_M_sort_29 : decode bb_M_sort 29 = .ok (.goto 4, 3) := by decide +kernel
theorem dd_M_sort_32 : decode bb_M_sort 32 = .ok (.iconst 0, 1) := by decide +kernel
theorem dd_M_sort_33 : decode bb_M_sort 33 = .ok (.iload_n 2, 1) := by decide +kernel
theorem dd_M_sort_34 : decode bb_M_sort 34 = .ok (.ifCond .lt 18, 3) := by decide +kernel
theorem dd_M_sort_37 : decode bb_M_sort 37 = .ok (.aload_n 0, 1) := by decide +kernel
theorem dd_M_sort_38 : decode bb_M_sort 38 = .ok (.iload_n 2, 1) := by decide +kernel
theorem dd_M_sort_39 : decode bb_M_sort 39 = .ok (.sipush 200, 3) := by decide +kernel
theorem dd_M_sort_42 : decode bb_M_sort 42 = .ok (.invokevirtual 111, 3) := by decide +kernel
theorem dd_M_sort_45 : decode bb_M_sort 45 = .ok (.ifCond .eq 7, 3) := by decide +kernel
theorem dd_M_sort_48 : decode bb_M_sort 48 = .ok (.iconst 1, 1) := by decide +kernel
theorem dd_M_sort_49 : decode bb_M_sort 49 = .ok (.goto 4, 3) := by decide +kernel
theorem dd_M_sort_52 : decode bb_M_sort 52 = .ok (.iconst 0, 1) := by decide +kernel
theorem dd_M_sort_53 : decode bb_M_sort 53 = .ok (.iconst 1, 1) := by decide +kernel
theorem dd_M_sort_54 : decode bb_M_sort 54 = .ok (.invokevirtual 83, 3) := by decide +kernel
theorem dd_M_sort_57 : decode bb_M_sort 57 = .ok (.ifCond .ne 5, 3) := by decide +kernel
theorem dd_M_sort_60 : decode bb_M_sort 60 = .ok (.iconst 0, 1) := by decide +kernel
theorem dd_M_sort_61 : decode bb_M_sort 61 = .ok (.ireturn, 1) := by decide +kernel
theorem dd_M_sort_62 : decode bb_M_sort 62 = .ok (.aload_n 0, 1) := by decide +kernel
theorem dd_M_sort_63 : decode bb_M_sort 63 = .ok (.iload_n 2, 1) := by decide +kernel
theorem dd_M_sort_64 : decode bb_M_sort 64 = .ok (.sipush 200, 3) := by decide +kernel
theorem dd_M_sort_67 : decode bb_M_sort 67 = .ok (.invokevirtual 118, 3) := by decide +kernel
theorem dd_M_sort_70 : decode bb_M_sort 70 = .ok (.aload_n 0, 1) := by decide +kernel
theorem dd_M_sort_71 : decode bb_M_sort 71 = .ok (.iload_n 2, 1) := by decide +kernel
theorem dd_M_sort_72 : decode bb_M_sort 72 = .ok (.sipush 200, 3) := by decide +kernel
theorem dd_M_sort_75 : decode bb_M_sort 75 = .ok (.invokevirtual 114, 3) := by decide +kernel
theorem dd_M_sort_78 : decode bb_M_sort 78 = .ok (.idiv, 1) := by decide +kernel
theorem dd_M_sort_79 : decode bb_M_sort 79 = .ok (.istore_n 3, 1) := by decide +kernel
theorem dd_M_sort_80 : decode bb_M_sort 80 = .ok (.iload_n 3, 1) := by decide +kernel
theorem dd_M_sort_81 : decode bb_M_sort 81 = .ok (.sipush 500, 3) := by decide +kernel
theorem dd_M_sort_84 : decode bb_M_sort 84 = .ok (.if_icmp .ge 7, 3) := by decide +kernel
theorem dd_M_sort_87 : decode bb_M_sort 87 = .ok (.iconst 0, 1) := by decide +kernel
theorem dd_M_sort_88 : decode bb_M_sort 88 = .ok (.goto 26, 3) := by decide +kernel
theorem dd_M_sort_91 : decode bb_M_sort 91 = .ok (.iload_n 3, 1) := by decide +kernel
theorem dd_M_sort_92 : decode bb_M_sort 92 = .ok (.sipush 1000, 3) := by decide +kernel
theorem dd_M_sort_95 : decode bb_M_sort 95 = .ok (.if_icmp .ge 7, 3) := by decide +kernel
theorem dd_M_sort_98 : decode bb_M_sort 98 = .ok (.iconst 1, 1) := by decide +kernel
theorem dd_M_sort_99 : decode bb_M_sort 99 = .ok (.goto 15, 3) := by decide +kernel
theorem dd_M_sort_102 : decode bb_M_sort 102 = .ok (.iload_n 3, 1) := by decide +kernel
theorem dd_M_sort_103 : decode bb_M_sort 103 = .ok (.sipush 1500, 3) := by decide +kernel
theorem dd_M_sort_106 : decode bb_M_sort 106 = .ok (.if_icmp .ge 7, 3) := by decide +kernel
theorem dd_M_sort_109 : decode bb_M_sort 109 = .ok (.iconst 2, 1) := by decide +kernel
theorem dd_M_sort_110 : decode bb_M_sort 110 = .ok (.goto 4, 3) := by decide +kernel
theorem dd_M_sort_113 : decode bb_M_sort 113 = .ok (.iconst 3, 1) := by decide +kernel
theorem dd_M_sort_114 : decode bb_M_sort 114 = .ok (.ireturn, 1) := by decide +kernel
theorem dd_M_defect_0 : decode bb_M_defect 0 = .ok (.aload_n 0, 1) := by decide +kernel
theorem dd_M_defect_1 : decode bb_M_defect 1 = .ok (.aload_n 0, 1) := by decide +kernel
theorem dd_M_defect_2 : decode bb_M_defect 2 = .ok (.iload_n 1, 1) := by decide +kernel
theorem dd_M_defect_3 : decode bb_M_defect 3 = .ok (.invokevirtual 95, 3) := by decide +kernel
theorem dd_M_defect_6 : decode bb_M_defect 6 = .ok (.iload_n 2, 1) := by decide +kernel
theorem dd_M_defect_7 : decode bb_M_defect 7 = .ok (.iconst 0, 1) := by decide +kernel
theorem dd_M_defect_8 : decode bb_M_defect 8 = .ok (.iconst 2, 1) := by decide +kernel
theorem dd_M_defect_9 : decode bb_M_defect 9 = .ok (.invokestatic 72, 3) := by decide +kernel
theorem dd_M_defect_12 : decode bb_M_defect 12 = .ok (.iconst 1, 1) := by decide +kernel
theorem dd_M_defect_13 : decode bb_M_defect 13 = .ok (.iconst 1, 1) := by decide +kernel
theorem dd_M_defect_14 : decode bb_M_defect 14 = .ok (.invokevirtual 83, 3) := by decide +kernel
theorem dd_M_defect_17 : decode bb_M_defect 17 = .ok (.ifCond .eq 10, 3) := by decide +kernel
theorem dd_M_defect_20 : decode bb_M_defect 20 = .ok (.aload_n 0, 1) := by decide +kernel
theorem dd_M_defect_21 : decode bb_M_defect 21 = .ok (.getfield 22, 3) := by decide +kernel
theorem dd_M_defect_24 : decode bb_M_defect 24 = .ok (.iload_n 1, 1) := by decide +kernel
theorem dd_M_defect_25 : decode bb_M_defect 25 = .ok (.iload_n 2, 1) := by decide +kernel
theorem dd_M_defect_26 : decode bb_M_defect 26 = .ok (.iastore, 1) := by decide +kernel
theorem dd_M_defect_27 : decode bb_M_defect 27 = .ok (.return_, 1) := by decide +kernel
theorem dd_M_works_0 : decode bb_M_works 0 = .ok (.aload_n 0, 1) := by decide +kernel
theorem dd_M_works_1 : decode bb_M_works 1 = .ok (.iload_n 1, 1) := by decide +kernel
theorem dd_M_works_2 : decode bb_M_works 2 = .ok (.invokevirtual 95, 3) := by decide +kernel
theorem dd_M_works_5 : decode bb_M_works 5 = .ok (.istore 4, 2) := by decide +kernel
theorem dd_M_works_7 : decode bb_M_works 7 = .ok (.iconst 1, 1) := by decide +kernel
theorem dd_M_works_8 : decode bb_M_works 8 = .ok (.istore 5, 2) := by decide +kernel
theorem dd_M_works_10 : decode bb_M_works 10 = .ok (.iconst 0, 1) := by decide +kernel
theorem dd_M_works_11 : decode bb_M_works 11 = .ok (.istore 6, 2) := by decide +kernel
theorem dd_M_works_13 : decode bb_M_works 13 = .ok (.iload 4, 2) := by decide +kernel
theorem dd_M_works_15 : decode bb_M_works 15 = .ok (.ifCond .eq 53, 3) := by decide +kernel
theorem dd_M_works_18 : decode bb_M_works 18 = .ok (.iload 6, 2) := by decide +kernel
theorem dd_M_works_20 : decode bb_M_works 20 = .ok (.aload_n 0, 1) := by decide +kernel
theorem dd_M_works_21 : decode bb_M_works 21 = .ok (.getfield 25, 3) := by decide +kernel
theorem dd_M_works_24 : decode bb_M_works 24 = .ok (.iload_n 1, 1) := by decide +kernel
theorem dd_M_works_25 : decode bb_M_works 25 = .ok (.iaload, 1) := by decide +kernel
theorem dd_M_works_26 : decode bb_M_works 26 = .ok (.if_icmp .ge 42, 3) := by decide +kernel
theorem dd_M_works_29 : decode bb_M_works 29 = .ok (.iload_n 2, 1) := by decide +kernel
theorem dd_M_works_30 : decode bb_M_works 30 = .ok (.aload_n 0, 1) := by decide +kernel
theorem dd_M_works_31 : decode bb_M_works 31 = .ok (.getfield 31, 3) := by decide +kernel
theorem dd_M_works_34 : decode bb_M_works 34 = .ok (.iconst 3, 1) := by decide +kernel
theorem dd_M_works_35 : decode bb_M_works 35 = .ok (.iload_n 1, 1) := by decide +kernel
theorem dd_M_works_36 : decode bb_M_works 36 = .ok (.imul, 1) := by decide +kernel
theorem dd_M_works_37 : decode bb_M_works 37 = .ok (.iload 6, 2) := by decide +kernel
theorem dd_M_works_39 : decode bb_M_works 39 = .ok (.iadd, 1) := by decide +kernel
theorem dd_M_works_40 : decode bb_M_works 40 = .ok (.iaload, 1) := by decide +kernel
theorem dd_M_works_41 : decode bb_M_works 41 = .ok (.if_icmp .gt 21, 3) := by decide +kernel
theorem dd_M_works_44 : decode bb_M_works 44 = .ok (.aload_n 0, 1) := by decide +kernel
theorem dd_M_works_45 : decode bb_M_works 45 = .ok (.getfield 28, 3) := by decide +kernel
theorem dd_M_works_48 : decode bb_M_works 48 = .ok (.iconst 3, 1) := by decide +kernel
theorem dd_M_works_49 : decode bb_M_works 49 = .ok (.iload_n 1, 1) := by decide +kernel
theorem dd_M_works_50 : decode bb_M_works 50 = .ok (.imul, 1) := by decide +kernel
theorem dd_M_works_51 : decode bb_M_works 51 = .ok (.iload 6, 2) := by decide +kernel
theorem dd_M_works_53 : decode bb_M_works 53 = .ok (.iadd, 1) := by decide +kernel
theorem dd_M_works_54 : decode bb_M_works 54 = .ok (.iaload, 1) := by decide +kernel
theorem dd_M_works_55 : decode bb_M_works 55 = .ok (.iload_n 3, 1) := by decide +kernel
theorem dd_M_works_56 : decode bb_M_works 56 = .ok (.if_icmp .gt 6, 3) := by decide +kernel
theorem dd_M_works_59 : decode bb_M_works 59 = .ok (.iconst 0, 1) := by decide +kernel
theorem dd_M_works_60 : decode bb_M_works 60 = .ok (.istore 5, 2) := by decide +kernel
theorem dd_M_works_62 : decode bb_M_works 62 = .ok (.iinc 6 1, 3) := by decide +kernel
theorem dd_M_works_65 : decode bb_M_works 65 = .ok (.goto (-52), 3) := by decide +kernel
theorem dd_M_works_68 : decode bb_M_works 68 = .ok (.aload_n 0, 1) := by decide +kernel
theorem dd_M_works_69 : decode bb_M_works 69 = .ok (.iload 4, 2) := by decide +kernel
theorem dd_M_works_71 : decode bb_M_works 71 = .ok (.iload_n 2, 1) := by decide +kernel
theorem dd_M_works_72 : decode bb_M_works 72 = .ok (.invokestatic 98, 3) := by decide +kernel
theorem dd_M_works_75 : decode bb_M_works 75 = .ok (.ifCond .eq 19, 3) := by decide +kernel
theorem dd_M_works_78 : decode bb_M_works 78 = .ok (.iload_n 3, 1) := by decide +kernel
theorem dd_M_works_79 : decode bb_M_works 79 = .ok (.invokestatic 98, 3) := by decide +kernel
theorem dd_M_works_82 : decode bb_M_works 82 = .ok (.ifCond .eq 12, 3) := by decide +kernel
theorem dd_M_works_85 : decode bb_M_works 85 = .ok (.iload_n 2, 1) := by decide +kernel
theorem dd_M_works_86 : decode bb_M_works 86 = .ok (.iload_n 3, 1) := by decide +kernel
theorem dd_M_works_87 : decode bb_M_works 87 = .ok (.if_icmp .gt 7, 3) := by decide +kernel
theorem dd_M_works_90 : decode bb_M_works 90 = .ok (.iconst 1, 1) := by decide +kernel
theorem dd_M_works_91 : decode bb_M_works 91 = .ok (.goto 4, 3) := by decide +kernel
theorem dd_M_works_94 : decode bb_M_works 94 = .ok (.iconst 0, 1) := by decide +kernel
theorem dd_M_works_95 : decode bb_M_works 95 = .ok (.iload 5, 2) := by decide +kernel
theorem dd_M_works_97 : decode bb_M_works 97 = .ok (.iload 4, 2) := by decide +kernel
theorem dd_M_works_99 : decode bb_M_works 99 = .ok (.ifCond .eq 17, 3) := by decide +kernel
theorem dd_M_works_102 : decode bb_M_works 102 = .ok (.aload_n 0, 1) := by decide +kernel
theorem dd_M_works_103 : decode bb_M_works 103 = .ok (.getfield 25, 3) := by decide +kernel
theorem dd_M_works_106 : decode bb_M_works 106 = .ok (.iload_n 1, 1) := by decide +kernel
theorem dd_M_works_107 : decode bb_M_works 107 = .ok (.iaload, 1) := by decide +kernel
theorem dd_M_works_108 : decode bb_M_works 108 = .ok (.iconst 3, 1) := by decide +kernel
theorem dd_M_works_109 : decode bb_M_works 109 = .ok (.if_icmp .ge 7, 3) := by decide +kernel
theorem dd_M_works_112 : decode bb_M_works 112 = .ok (.iconst 1, 1) := by decide +kernel
theorem dd_M_works_113 : decode bb_M_works 113 = .ok (.goto 4, 3) := by decide +kernel
theorem dd_M_works_116 : decode bb_M_works 116 = .ok (.iconst 0, 1) := by decide +kernel
theorem dd_M_works_117 : decode bb_M_works 117 = .ok (.invokevirtual 83, 3) := by decide +kernel
theorem dd_M_works_120 : decode bb_M_works 120 = .ok (.ifCond .ne 4, 3) := by decide +kernel
theorem dd_M_works_123 : decode bb_M_works 123 = .ok (.return_, 1) := by decide +kernel
theorem dd_M_works_124 : decode bb_M_works 124 = .ok (.aload_n 0, 1) := by decide +kernel
theorem dd_M_works_125 : decode bb_M_works 125 = .ok (.getfield 28, 3) := by decide +kernel
theorem dd_M_works_128 : decode bb_M_works 128 = .ok (.iconst 3, 1) := by decide +kernel
theorem dd_M_works_129 : decode bb_M_works 129 = .ok (.iload_n 1, 1) := by decide +kernel
theorem dd_M_works_130 : decode bb_M_works 130 = .ok (.imul, 1) := by decide +kernel
theorem dd_M_works_131 : decode bb_M_works 131 = .ok (.aload_n 0, 1) := by decide +kernel
theorem dd_M_works_132 : decode bb_M_works 132 = .ok (.getfield 25, 3) := by decide +kernel
theorem dd_M_works_135 : decode bb_M_works 135 = .ok (.iload_n 1, 1) := by decide +kernel
theorem dd_M_works_136 : decode bb_M_works 136 = .ok (.iaload, 1) := by decide +kernel
theorem dd_M_works_137 : decode bb_M_works 137 = .ok (.iadd, 1) := by decide +kernel
theorem dd_M_works_138 : decode bb_M_works 138 = .ok (.iload_n 2, 1) := by decide +kernel
theorem dd_M_works_139 : decode bb_M_works 139 = .ok (.iastore, 1) := by decide +kernel
theorem dd_M_works_140 : decode bb_M_works 140 = .ok (.aload_n 0, 1) := by decide +kernel
theorem dd_M_works_141 : decode bb_M_works 141 = .ok (.getfield 31, 3) := by decide +kernel
theorem dd_M_works_144 : decode bb_M_works 144 = .ok (.iconst 3, 1) := by decide +kernel
theorem dd_M_works_145 : decode bb_M_works 145 = .ok (.iload_n 1, 1) := by decide +kernel
theorem dd_M_works_146 : decode bb_M_works 146 = .ok (.imul, 1) := by decide +kernel
theorem dd_M_works_147 : decode bb_M_works 147 = .ok (.aload_n 0, 1) := by decide +kernel
theorem dd_M_works_148 : decode bb_M_works 148 = .ok (.getfield 25, 3) := by decide +kernel
theorem dd_M_works_151 : decode bb_M_works 151 = .ok (.iload_n 1, 1) := by decide +kernel
theorem dd_M_works_152 : decode bb_M_works 152 = .ok (.iaload, 1) := by decide +kernel
theorem dd_M_works_153 : decode bb_M_works 153 = .ok (.iadd, 1) := by decide +kernel
theorem dd_M_works_154 : decode bb_M_works 154 = .ok (.iload_n 3, 1) := by decide +kernel
theorem dd_M_works_155 : decode bb_M_works 155 = .ok (.iastore, 1) := by decide +kernel
theorem dd_M_works_156 : decode bb_M_works 156 = .ok (.aload_n 0, 1) := by decide +kernel
theorem dd_M_works_157 : decode bb_M_works 157 = .ok (.getfield 25, 3) := by decide +kernel
theorem dd_M_works_160 : decode bb_M_works 160 = .ok (.iload_n 1, 1) := by decide +kernel
theorem dd_M_works_161 : decode bb_M_works 161 = .ok (.dup2, 1) := by decide +kernel
theorem dd_M_works_162 : decode bb_M_works 162 = .ok (.iaload, 1) := by decide +kernel
theorem dd_M_works_163 : decode bb_M_works 163 = .ok (.iconst 1, 1) := by decide +kernel
theorem dd_M_works_164 : decode bb_M_works 164 = .ok (.iadd, 1) := by decide +kernel
theorem dd_M_works_165 : decode bb_M_works 165 = .ok (.iastore, 1) := by decide +kernel
theorem dd_M_works_166 : decode bb_M_works 166 = .ok (.return_, 1) := by decide +kernel
theorem dd_M_season_0 : decode bb_M_season 0 = .ok (.aload_n 0, 1) := by decide +kernel
theorem dd_M_season_1 : decode bb_M_season 1 = .ok (.aload_n 0, 1) := by decide +kernel
theorem dd_M_season_2 : decode bb_M_season 2 = .ok (.iload_n 1, 1) := by decide +kernel
theorem dd_M_season_3 : decode bb_M_season 3 = .ok (.invokevirtual 95, 3) := by decide +kernel
theorem dd_M_season_6 : decode bb_M_season 6 = .ok (.iload_n 2, 1) := by decide +kernel
theorem dd_M_season_7 : decode bb_M_season 7 = .ok (.iconst 0, 1) := by decide +kernel
theorem dd_M_season_8 : decode bb_M_season 8 = .ok (.bipush 11, 2) := by decide +kernel
theorem dd_M_season_10 : decode bb_M_season 10 = .ok (.invokestatic 72, 3) := by decide +kernel
theorem dd_M_season_13 : decode bb_M_season 13 = .ok (.aload_n 0, 1) := by decide +kernel
theorem dd_M_season_14 : decode bb_M_season 14 = .ok (.iload_n 1, 1) := by decide +kernel
theorem dd_M_season_15 : decode bb_M_season 15 = .ok (.invokevirtual 95, 3) := by decide +kernel
theorem dd_M_season_18 : decode bb_M_season 18 = .ok (.ifCond .eq 17, 3) := by decide +kernel
theorem dd_M_season_21 : decode bb_M_season 21 = .ok (.aload_n 0, 1) := by decide +kernel
theorem dd_M_season_22 : decode bb_M_season 22 = .ok (.getfield 19, 3) := by decide +kernel
theorem dd_M_season_25 : decode bb_M_season 25 = .ok (.iload_n 1, 1) := by decide +kernel
theorem dd_M_season_26 : decode bb_M_season 26 = .ok (.iaload, 1) := by decide +kernel
theorem dd_M_season_27 : decode bb_M_season 27 = .ok (.iconst 2, 1) := by decide +kernel
theorem dd_M_season_28 : decode bb_M_season 28 = .ok (.if_icmp .ne 7, 3) := by decide +kernel
theorem dd_M_season_31 : decode bb_M_season 31 = .ok (.iconst 1, 1) := by decide +kernel
theorem dd_M_season_32 : decode bb_M_season 32 = .ok (.goto 4, 3) := by decide +kernel
theorem dd_M_season_35 : decode bb_M_season 35 = .ok (.iconst 0, 1) := by decide +kernel
theorem dd_M_season_36 : decode bb_M_season 36 = .ok (.iconst 1, 1) := by decide +kernel
theorem dd_M_season_37 : decode bb_M_season 37 = .ok (.invokevirtual 83, 3) := by decide +kernel
theorem dd_M_season_40 : decode bb_M_season 40 = .ok (.ifCond .eq 15, 3) := by decide +kernel
theorem dd_M_season_43 : decode bb_M_season 43 = .ok (.aload_n 0, 1) := by decide +kernel
theorem dd_M_season_44 : decode bb_M_season 44 = .ok (.getfield 34, 3) := by decide +kernel
theorem dd_M_season_47 : decode bb_M_season 47 = .ok (.bipush 12, 2) := by decide +kernel
theorem dd_M_season_49 : decode bb_M_season 49 = .ok (.iload_n 1, 1) := by decide +kernel
theorem dd_M_season_50 : decode bb_M_season 50 = .ok (.imul, 1) := by decide +kernel
theorem dd_M_season_51 : decode bb_M_season 51 = .ok (.iload_n 2, 1) := by decide +kernel
theorem dd_M_season_52 : decode bb_M_season 52 = .ok (.iadd, 1) := by decide +kernel
theorem dd_M_season_53 : decode bb_M_season 53 = .ok (.iload_n 3, 1) := by decide +kernel
theorem dd_M_season_54 : decode bb_M_season 54 = .ok (.bastore, 1) := by decide +kernel
theorem dd_M_season_55 : decode bb_M_season 55 = .ok (.return_, 1) := by decide +kernel
theorem dd_M_isUsable_0 : decode bb_M_isUsable 0 = .ok (.aload_n 0, 1) := by decide +kernel
theorem dd_M_isUsable_1 : decode bb_M_isUsable 1 = .ok (.getfield 22, 3) := by decide +kernel
theorem dd_M_isUsable_4 : decode bb_M_isUsable 4 = .ok (.iload_n 1, 1) := by decide +kernel
theorem dd_M_isUsable_5 : decode bb_M_isUsable 5 = .ok (.iaload, 1) := by decide +kernel
theorem dd_M_isUsable_6 : decode bb_M_isUsable 6 = .ok (.iconst 2, 1) := by decide +kernel
theorem dd_M_isUsable_7 : decode bb_M_isUsable 7 = .ok (.if_icmp .eq 51, 3) := by decide +kernel
theorem dd_M_isUsable_10 : decode bb_M_isUsable 10 = .ok (.aload_n 0, 1) := by decide +kernel
theorem dd_M_isUsable_11 : decode bb_M_isUsable 11 = .ok (.getfield 19, 3) := by decide +kernel
theorem dd_M_isUsable_14 : decode bb_M_isUsable 14 = .ok (.iload_n 1, 1) := by decide +kernel
theorem dd_M_isUsable_15 : decode bb_M_isUsable 15 = .ok (.iaload, 1) := by decide +kernel
theorem dd_M_isUsable_16 : decode bb_M_isUsable 16 = .ok (.iconst 1, 1) := by decide +kernel
theorem dd_M_isUsable_17 : decode bb_M_isUsable 17 = .ok (.if_icmp .ne 10, 3) := by decide +kernel
theorem dd_M_isUsable_20 : decode bb_M_isUsable 20 = .ok (.aload_n 0, 1) := by decide +kernel
theorem dd_M_isUsable_21 : decode bb_M_isUsable 21 = .ok (.getfield 91, 3) := by decide +kernel
theorem dd_M_isUsable_24 : decode bb_M_isUsable 24 = .ok (.ifCond .eq 34, 3) := by decide +kernel
theorem dd_M_isUsable_27 : decode bb_M_isUsable 27 = .ok (.aload_n 0, 1) := by decide +kernel
theorem dd_M_isUsable_28 : decode bb_M_isUsable 28 = .ok (.getfield 19, 3) := by decide +kernel
theorem dd_M_isUsable_31 : decode bb_M_isUsable 31 = .ok (.iload_n 1, 1) := by decide +kernel
theorem dd_M_isUsable_32 : decode bb_M_isUsable 32 = .ok (.iaload, 1) := by decide +kernel
theorem dd_M_isUsable_33 : decode bb_M_isUsable 33 = .ok (.iconst 2, 1) := by decide +kernel
theorem dd_M_isUsable_34 : decode bb_M_isUsable 34 = .ok (.if_icmp .ne 26, 3) := by decide +kernel
theorem dd_M_isUsable_37 : decode bb_M_isUsable 37 = .ok (.aload_n 0, 1) := by decide +kernel
theorem dd_M_isUsable_38 : decode bb_M_isUsable 38 = .ok (.getfield 34, 3) := by decide +kernel
theorem dd_M_isUsable_41 : decode bb_M_isUsable 41 = .ok (.bipush 12, 2) := by decide +kernel
theorem dd_M_isUsable_43 : decode bb_M_isUsable 43 = .ok (.iload_n 1, 1) := by decide +kernel
theorem dd_M_isUsable_44 : decode bb_M_isUsable 44 = .ok (.imul, 1) := by decide +kernel
theorem dd_M_isUsable_45 : decode bb_M_isUsable 45 = .ok (.iload_n 2, 1) := by decide +kernel
theorem dd_M_isUsable_46 : decode bb_M_isUsable 46 = .ok (.sipush 360, 3) := by decide +kernel
theorem dd_M_isUsable_49 : decode bb_M_isUsable 49 = .ok (.irem, 1) := by decide +kernel
theorem dd_M_isUsable_50 : decode bb_M_isUsable 50 = .ok (.bipush 30, 2) := by decide +kernel
theorem dd_M_isUsable_52 : decode bb_M_isUsable 52 = .ok (.idiv, 1) := by decide +kernel
theorem dd_M_isUsable_53 : decode bb_M_isUsable 53 = .ok (.iadd, 1) := by decide +kernel
theorem dd_M_isUsable_54 : decode bb_M_isUsable 54 = .ok (.baload, 1) := by decide +kernel
theorem dd_M_isUsable_55 : decode bb_M_isUsable 55 = .ok (.ifCond .eq 5, 3) := by decide +kernel
theorem dd_M_isUsable_58 : decode bb_M_isUsable 58 = .ok (.iconst 0, 1) := by decide +kernel
theorem dd_M_isUsable_59 : decode bb_M_isUsable 59 = .ok (.ireturn, 1) := by decide +kernel
theorem dd_M_isUsable_60 : decode bb_M_isUsable 60 = .ok (.iconst 0, 1) := by decide +kernel
theorem dd_M_isUsable_61 : decode bb_M_isUsable 61 = .ok (.istore_n 3, 1) := by decide +kernel
theorem dd_M_isUsable_62 : decode bb_M_isUsable 62 = .ok (.iload_n 3, 1) := by decide +kernel
theorem dd_M_isUsable_63 : decode bb_M_isUsable 63 = .ok (.aload_n 0, 1) := by decide +kernel
theorem dd_M_isUsable_64 : decode bb_M_isUsable 64 = .ok (.getfield 25, 3) := by decide +kernel
theorem dd_M_isUsable_67 : decode bb_M_isUsable 67 = .ok (.iload_n 1, 1) := by decide +kernel
theorem dd_M_isUsable_68 : decode bb_M_isUsable 68 = .ok (.iaload, 1) := by decide +kernel
theorem dd_M_isUsable_69 : decode bb_M_isUsable 69 = .ok (.if_icmp .ge 38, 3) := by decide +kernel
theorem dd_M_isUsable_72 : decode bb_M_isUsable 72 = .ok (.iload_n 2, 1) := by decide +kernel
theorem dd_M_isUsable_73 : decode bb_M_isUsable 73 = .ok (.aload_n 0, 1) := by decide +kernel
theorem dd_M_isUsable_74 : decode bb_M_isUsable 74 = .ok (.getfield 28, 3) := by decide +kernel
theorem dd_M_isUsable_77 : decode bb_M_isUsable 77 = .ok (.iconst 3, 1) := by decide +kernel
theorem dd_M_isUsable_78 : decode bb_M_isUsable 78 = .ok (.iload_n 1, 1) := by decide +kernel
theorem dd_M_isUsable_79 : decode bb_M_isUsable 79 = .ok (.imul, 1) := by decide +kernel
theorem dd_M_isUsable_80 : decode bb_M_isUsable 80 = .ok (.iload_n 3, 1) := by decide +kernel
theorem dd_M_isUsable_81 : decode bb_M_isUsable 81 = .ok (.iadd, 1) := by decide +kernel
theorem dd_M_isUsable_82 : decode bb_M_isUsable 82 = .ok (.iaload, 1) := by decide +kernel
theorem dd_M_isUsable_83 : decode bb_M_isUsable 83 = .ok (.aload_n 0, 1) := by decide +kernel
theorem dd_M_isUsable_84 : decode bb_M_isUsable 84 = .ok (.getfield 31, 3) := by decide +kernel
theorem dd_M_isUsable_87 : decode bb_M_isUsable 87 = .ok (.iconst 3, 1) := by decide +kernel
theorem dd_M_isUsable_88 : decode bb_M_isUsable 88 = .ok (.iload_n 1, 1) := by decide +kernel
theorem dd_M_isUsable_89 : decode bb_M_isUsable 89 = .ok (.imul, 1) := by decide +kernel
theorem dd_M_isUsable_90 : decode bb_M_isUsable 90 = .ok (.iload_n 3, 1) := by decide +kernel
theorem dd_M_isUsable_91 : decode bb_M_isUsable 91 = .ok (.iadd, 1) := by decide +kernel
theorem dd_M_isUsable_92 : decode bb_M_isUsable 92 = .ok (.iaload, 1) := by decide +kernel
theorem dd_M_isUsable_93 : decode bb_M_isUsable 93 = .ok (.invokestatic 72, 3) := by decide +kernel
theorem dd_M_isUsable_96 : decode bb_M_isUsable 96 = .ok (.ifCond .eq 5, 3) := by decide +kernel
theorem dd_M_isUsable_99 : decode bb_M_isUsable 99 = .ok (.iconst 0, 1) := by decide +kernel
theorem dd_M_isUsable_100 : decode bb_M_isUsable 100 = .ok (.ireturn, 1) := by decide +kernel
theorem dd_M_isUsable_101 : decode bb_M_isUsable 101 = .ok (.iinc 3 1, 3) := by decide +kernel
theorem dd_M_isUsable_104 : decode bb_M_isUsable 104 = .ok (.goto (-42), 3) := by decide +kernel
theorem dd_M_isUsable_107 : decode bb_M_isUsable 107 = .ok (.iconst 1, 1) := by decide +kernel
theorem dd_M_isUsable_108 : decode bb_M_isUsable 108 = .ok (.ireturn, 1) := by decide +kernel
theorem dd_M_usable_0 : decode bb_M_usable 0 = .ok (.aload_n 0, 1) := by decide +kernel
theorem dd_M_usable_1 : decode bb_M_usable 1 = .ok (.aload_n 0, 1) := by decide +kernel
theorem dd_M_usable_2 : decode bb_M_usable 2 = .ok (.iload_n 1, 1) := by decide +kernel
theorem dd_M_usable_3 : decode bb_M_usable 3 = .ok (.invokevirtual 95, 3) := by decide +kernel
theorem dd_M_usable_6 : decode bb_M_usable 6 = .ok (.iload_n 2, 1) := by decide +kernel
theorem dd_M_usable_7 : decode bb_M_usable 7 = .ok (.invokestatic 98, 3) := by decide +kernel
theorem dd_M_usable_10 : decode bb_M_usable 10 = .ok (.iconst 1, 1) := by decide +kernel
theorem dd_M_usable_11 : decode bb_M_usable 11 = .ok (.iconst 1, 1) := by decide +kernel
theorem dd_M_usable_12 : decode bb_M_usable 12 = .ok (.invokevirtual 83, 3) := by decide +kernel
theorem dd_M_usable_15 : decode bb_M_usable 15 = .ok (.ifCond .eq 16, 3) := by decide +kernel
theorem dd_M_usable_18 : decode bb_M_usable 18 = .ok (.aload_n 0, 1) := by decide +kernel
theorem dd_M_usable_19 : decode bb_M_usable 19 = .ok (.iload_n 1, 1) := by decide +kernel
theorem dd_M_usable_20 : decode bb_M_usable 20 = .ok (.iload_n 2, 1) := by decide +kernel
theorem dd_M_usable_21 : decode bb_M_usable 21 = .ok (.invokevirtual 121, 3) := by decide +kernel
theorem dd_M_usable_24 : decode bb_M_usable 24 = .ok (.ifCond .eq 7, 3) := by decide +kernel
theorem dd_M_usable_27 : decode bb_M_usable 27 = .ok (.iconst 1, 1) := by decide +kernel
theorem dd_M_usable_28 : decode bb_M_usable 28 = .ok (.goto 4, 3) := by decide +kernel
theorem dd_M_usable_31 : decode bb_M_usable 31 = .ok (.iconst 0, 1) := by decide +kernel
theorem dd_M_usable_32 : decode bb_M_usable 32 = .ok (.ireturn, 1) := by decide +kernel
theorem dd_M_size_0 : decode bb_M_size 0 = .ok (.iload_n 0, 1) := by decide +kernel
theorem dd_M_size_1 : decode bb_M_size 1 = .ok (.ifCond .ge 8, 3) := by decide +kernel
theorem dd_M_size_4 : decode bb_M_size 4 = .ok (.iload_n 0, 1) := by decide +kernel
theorem dd_M_size_5 : decode bb_M_size 5 = .ok (.ineg, 1) := by decide +kernel
theorem dd_M_size_6 : decode bb_M_size 6 = .ok (.goto 4, 3) := by decide +kernel
theorem dd_M_size_9 : decode bb_M_size 9 = .ok (.iload_n 0, 1) := by decide +kernel
theorem dd_M_size_10 : decode bb_M_size 10 = .ok (.ireturn, 1) := by decide +kernel
theorem dd_M_hose_0 : decode bb_M_hose 0 = .ok (.iload_n 1, 1) := by decide +kernel
theorem dd_M_hose_1 : decode bb_M_hose 1 = .ok (.aload_n 0, 1) := by decide +kernel
theorem dd_M_hose_2 : decode bb_M_hose 2 = .ok (.getfield 7, 3) := by decide +kernel
theorem dd_M_hose_5 : decode bb_M_hose 5 = .ok (.iload_n 3, 1) := by decide +kernel
theorem dd_M_hose_6 : decode bb_M_hose 6 = .ok (.iaload, 1) := by decide +kernel
theorem dd_M_hose_7 : decode bb_M_hose 7 = .ok (.isub, 1) := by decide +kernel
theorem dd_M_hose_8 : decode bb_M_hose 8 = .ok (.invokestatic 124, 3) := by decide +kernel
theorem dd_M_hose_11 : decode bb_M_hose 11 = .ok (.iload_n 2, 1) := by decide +kernel
theorem dd_M_hose_12 : decode bb_M_hose 12 = .ok (.aload_n 0, 1) := by decide +kernel
theorem dd_M_hose_13 : decode bb_M_hose 13 = .ok (.getfield 13, 3) := by decide +kernel
theorem dd_M_hose_16 : decode bb_M_hose 16 = .ok (.iload_n 3, 1) := by decide +kernel
theorem dd_M_hose_17 : decode bb_M_hose 17 = .ok (.iaload, 1) := by decide +kernel
theorem dd_M_hose_18 : decode bb_M_hose 18 = .ok (.isub, 1) := by decide +kernel
theorem dd_M_hose_19 : decode bb_M_hose 19 = .ok (.invokestatic 124, 3) := by decide +kernel
theorem dd_M_hose_22 : decode bb_M_hose 22 = .ok (.iadd, 1) := by decide +kernel
theorem dd_M_hose_23 : decode bb_M_hose 23 = .ok (.ireturn, 1) := by decide +kernel
theorem dd_M_near_0 : decode bb_M_near 0 = .ok (.aload_n 0, 1) := by decide +kernel
theorem dd_M_near_1 : decode bb_M_near 1 = .ok (.iload_n 1, 1) := by decide +kernel
theorem dd_M_near_2 : decode bb_M_near 2 = .ok (.iload_n 2, 1) := by decide +kernel
theorem dd_M_near_3 : decode bb_M_near 3 = .ok (.invokestatic 79, 3) := by decide +kernel
theorem dd_M_near_6 : decode bb_M_near 6 = .ok (.ifCond .eq 19, 3) := by decide +kernel
theorem dd_M_near_9 : decode bb_M_near 9 = .ok (.iload_n 3, 1) := by decide +kernel
theorem dd_M_near_10 : decode bb_M_near 10 = .ok (.invokestatic 98, 3) := by decide +kernel
theorem dd_M_near_13 : decode bb_M_near 13 = .ok (.ifCond .eq 12, 3) := by decide +kernel
theorem dd_M_near_16 : decode bb_M_near 16 = .ok (.iload 4, 2) := by decide +kernel
theorem dd_M_near_18 : decode bb_M_near 18 = .ok (.ifCond .lt 7, 3) := by decide +kernel
theorem dd_M_near_21 : decode bb_M_near 21 = .ok (.iconst 1, 1) := by decide +kernel
theorem dd_M_near_22 : decode bb_M_near 22 = .ok (.goto 4, 3) := by decide +kernel
theorem dd_M_near_25 : decode bb_M_near 25 = .ok (.iconst 0, 1) := by decide +kernel
theorem dd_M_near_26 : decode bb_M_near 26 = .ok (.iconst 1, 1) := by decide +kernel
theorem dd_M_near_27 : decode bb_M_near 27 = .ok (.iconst 1, 1) := by decide +kernel
theorem dd_M_near_28 : decode bb_M_near 28 = .ok (.iconst 1, 1) := by decide +kernel
theorem dd_M_near_29 : decode bb_M_near 29 = .ok (.invokevirtual 83, 3) := by decide +kernel
theorem dd_M_near_32 : decode bb_M_near 32 = .ok (.ifCond .ne 5, 3) := by decide +kernel
theorem dd_M_near_35 : decode bb_M_near 35 = .ok (.iconst 0, 1) := by decide +kernel
theorem dd_M_near_36 : decode bb_M_near 36 = .ok (.ireturn, 1) := by decide +kernel
theorem dd_M_near_37 : decode bb_M_near 37 = .ok (.iconst (-1), 1) := by decide +kernel
theorem dd_M_near_38 : decode bb_M_near 38 = .ok (.istore 5, 2) := by decide +kernel
theorem dd_M_near_40 : decode bb_M_near 40 = .ok (.iconst 0, 1) := by decide +kernel
theorem dd_M_near_41 : decode bb_M_near 41 = .ok (.istore 6, 2) := by decide +kernel
theorem dd_M_near_43 : decode bb_M_near 43 = .ok (.iload 6, 2) := by decide +kernel
theorem dd_M_near_45 : decode bb_M_near 45 = .ok (.iload 4, 2) := by decide +kernel
theorem dd_M_near_47 : decode bb_M_near 47 = .ok (.if_icmp .gt 144, 3) := by decide +kernel
theorem dd_M_near_50 : decode bb_M_near 50 = .ok (.iconst (-1), 1) := by decide +kernel
theorem dd_M_near_51 : decode bb_M_near 51 = .ok (.istore 7, 2) := by decide +kernel
theorem dd_M_near_53 : decode bb_M_near 53 = .ok (.iconst 0, 1) := by decide +kernel
theorem dd_M_near_54 : decode bb_M_near 54 = .ok (.istore 8, 2) := by decide +kernel
theorem dd_M_near_56 : decode bb_M_near 56 = .ok (.iload 8, 2) := by decide +kernel
theorem dd_M_near_58 : decode bb_M_near 58 = .ok (.aload_n 0, 1) := by decide +kernel
theorem dd_M_near_59 : decode bb_M_near 59 = .ok (.getfield 69, 3) := by decide +kernel
theorem dd_M_near_62 : decode bb_M_near 62 = .ok (.if_icmp .ge 112, 3) := by decide +kernel
theorem dd_M_near_65 : decode bb_M_near 65 = .ok (.aload_n 0, 1) := by decide +kernel
theorem dd_M_near_66 : decode bb_M_near 66 = .ok (.iload 8, 2) := by decide +kernel
theorem dd_M_near_68 : decode bb_M_near 68 = .ok (.iload_n 3, 1) := by decide +kernel
theorem dd_M_near_69 : decode bb_M_near 69 = .ok (.invokevirtual 121, 3) := by decide +kernel
theorem dd_M_near_72 : decode bb_M_near 72 = .ok (.ifCond .ne 6, 3) := by decide +kernel
theorem dd_M_near_75 : decode bb_M_near 75 = .ok (.goto 93, 3) := by decide +kernel
theorem dd_M_near_78 : decode bb_M_near 78 = .ok (.iload 5, 2) := by decide +kernel
theorem dd_M_near_80 : decode bb_M_near 80 = .ok (.ifCond .lt 48, 3) := by decide +kernel
theorem dd_M_near_83 : decode bb_M_near 83 = .ok (.aload_n 0, 1) := by decide +kernel
theorem dd_M_near_84 : decode bb_M_near 84 = .ok (.iload_n 1, 1) := by decide +kernel
theorem dd_M_near_85 : decode bb_M_near 85 = .ok (.iload_n 2, 1) := by decide +kernel
theorem dd_M_near_86 : decode bb_M_near 86 = .ok (.iload 8, 2) := by decide +kernel
theorem dd_M_near_88 : decode bb_M_near 88 = .ok (.invokevirtual 127, 3) := by decide +kernel
theorem dd_M_near_91 : decode bb_M_near 91 = .ok (.aload_n 0, 1) := by decide +kernel
theorem dd_M_near_92 : decode bb_M_near 92 = .ok (.iload_n 1, 1) := by decide +kernel
theorem dd_M_near_93 : decode bb_M_near 93 = .ok (.iload_n 2, 1) := by decide +kernel
theorem dd_M_near_94 : decode bb_M_near 94 = .ok (.iload 5, 2) := by decide +kernel
theorem dd_M_near_96 : decode bb_M_near 96 = .ok (.invokevirtual 127, 3) := by decide +kernel
theorem dd_M_near_99 : decode bb_M_near 99 = .ok (.if_icmp .gt 29, 3) := by decide +kernel
theorem dd_M_near_102 : decode bb_M_near 102 = .ok (.aload_n 0, 1) := by decide +kernel
theorem dd_M_near_103 : decode bb_M_near 103 = .ok (.iload_n 1, 1) := by decide +kernel
theorem dd_M_near_104 : decode bb_M_near 104 = .ok (.iload_n 2, 1) := by decide +kernel
theorem dd_M_near_105 : decode bb_M_near 105 = .ok (.iload 8, 2) := by decide +kernel
theorem dd_M_near_107 : decode bb_M_near 107 = .ok (.invokevirtual 127, 3) := by decide +kernel
theorem dd_M_near_110 : decode bb_M_near 110 = .ok (.aload_n 0, 1) := by decide +kernel
theorem dd_M_near_111 : decode bb_M_near 111 = .ok (.iload_n 1, 1) := by decide +kernel
theorem dd_M_near_112 : decode bb_M_near 112 = .ok (.iload_n 2, 1) := by decide +kernel
theorem dd_M_near_113 : decode bb_M_near 113 = .ok (.iload 5, 2) := by decide +kernel
theorem dd_M_near_115 : decode bb_M_near 115 = .ok (.invokevirtual 127, 3) := by decide +kernel
theorem dd_M_near_118 : decode bb_M_near 118 = .ok (.if_icmp .ne 14, 3) := by decide +kernel
theorem dd_M_near_121 : decode bb_M_near 121 = .ok (.iload 8, 2) := by decide +kernel
theorem dd_M_near_123 : decode bb_M_near 123 = .ok (.iload 5, 2) := by decide +kernel
theorem dd_M_near_125 : decode bb_M_near 125 = .ok (.if_icmp .le 7, 3) := by decide +kernel
theorem dd_M_near_128 : decode bb_M_near 128 = .ok (.iconst 1, 1) := by decide +kernel
theorem dd_M_near_129 : decode bb_M_near 129 = .ok (.goto 4, 3) := by decide +kernel
theorem dd_M_near_132 : decode bb_M_near 132 = .ok (.iconst 0, 1) := by decide +kernel
theorem dd_M_near_133 : decode bb_M_near 133 = .ok (.istore 9, 2) := by decide +kernel
theorem dd_M_near_135 : decode bb_M_near 135 = .ok (.iload 9, 2) := by decide +kernel
theorem dd_M_near_137 : decode bb_M_near 137 = .ok (.ifCond .eq 31, 3) := by decide +kernel
theorem dd_M_near_140 : decode bb_M_near 140 = .ok (.iload 7, 2) := by decide +kernel
theorem dd_M_near_142 : decode bb_M_near 142 = .ok (.ifCond .lt 22, 3) := by decide +kernel
theorem dd_M_near_145 : decode bb_M_near 145 = .ok (.aload_n 0, 1) := by decide +kernel
theorem dd_M_near_146 : decode bb_M_near 146 = .ok (.iload_n 1, 1) := by decide +kernel
theorem dd_M_near_147 : decode bb_M_near 147 = .ok (.iload_n 2, 1) := by decide +kernel
theorem dd_M_near_148 : decode bb_M_near 148 = .ok (.iload 8, 2) := by decide +kernel
theorem dd_M_near_150 : decode bb_M_near 150 = .ok (.invokevirtual 127, 3) := by decide +kernel
theorem dd_M_near_153 : decode bb_M_near 153 = .ok (.aload_n 0, 1) := by decide +kernel
theorem dd_M_near_154 : decode bb_M_near 154 = .ok (.iload_n 1, 1) := by decide +kernel
theorem dd_M_near_155 : decode bb_M_near 155 = .ok (.iload_n 2, 1) := by decide +kernel
theorem dd_M_near_156 : decode bb_M_near 156 = .ok (.iload 7, 2) := by decide +kernel
theorem dd_M_near_158 : decode bb_M_near 158 = .ok (.invokevirtual 127, 3) := by decide +kernel
theorem dd_M_near_161 : decode bb_M_near 161 = .ok (.if_icmp .ge 7, 3) := by decide +kernel
theorem dd_M_near_164 : decode bb_M_near 164 = .ok (.iload 8, 2) := by decide +kernel
theorem dd_M_near_166 : decode bb_M_near 166 = .ok (.istore 7, 2) := by decide +kernel
theorem dd_M_near_168 : decode bb_M_near 168 = .ok (.iinc 8 1, 3) := by decide +kernel
theorem dd_M_near_171 : decode bb_M_near 171 = .ok (.goto (-115), 3) := by decide +kernel
theorem dd_M_near_174 : decode bb_M_near 174 = .ok (.iload 7, 2) := by decide +kernel
theorem dd_M_near_176 : decode bb_M_near 176 = .ok (.ifCond .ge 5, 3) := by decide +kernel
theorem dd_M_near_179 : decode bb_M_near 179 = .ok (.iconst (-1), 1) := by decide +kernel
theorem dd_M_near_180 : decode bb_M_near 180 = .ok (.ireturn, 1) := by decide +kernel
theorem dd_M_near_181 : decode bb_M_near 181 = .ok (.iload 7, 2) := by decide +kernel
theorem dd_M_near_183 : decode bb_M_near 183 = .ok (.istore 5, 2) := by decide +kernel
theorem dd_M_near_185 : decode bb_M_near 185 = .ok (.iinc 6 1, 3) := by decide +kernel
theorem dd_M_near_188 : decode bb_M_near 188 = .ok (.goto (-145), 3) := by decide +kernel
theorem dd_M_near_191 : decode bb_M_near 191 = .ok (.iload 5, 2) := by decide +kernel
theorem dd_M_near_193 : decode bb_M_near 193 = .ok (.ireturn, 1) := by decide +kernel
theorem dd_M_whole_0 : decode bb_M_whole 0 = .ok (.aload_n 0, 1) := by decide +kernel
theorem dd_M_whole_1 : decode bb_M_whole 1 = .ok (.aload_n 0, 1) := by decide +kernel
theorem dd_M_whole_2 : decode bb_M_whole 2 = .ok (.iload_n 1, 1) := by decide +kernel
theorem dd_M_whole_3 : decode bb_M_whole 3 = .ok (.invokevirtual 107, 3) := by decide +kernel
theorem dd_M_whole_6 : decode bb_M_whole 6 = .ok (.iload_n 2, 1) := by decide +kernel
theorem dd_M_whole_7 : decode bb_M_whole 7 = .ok (.invokevirtual 118, 3) := by decide +kernel
theorem dd_M_whole_10 : decode bb_M_whole 10 = .ok (.aload_n 0, 1) := by decide +kernel
theorem dd_M_whole_11 : decode bb_M_whole 11 = .ok (.aload_n 0, 1) := by decide +kernel
theorem dd_M_whole_12 : decode bb_M_whole 12 = .ok (.iload_n 1, 1) := by decide +kernel
theorem dd_M_whole_13 : decode bb_M_whole 13 = .ok (.invokevirtual 107, 3) := by decide +kernel
theorem dd_M_whole_16 : decode bb_M_whole 16 = .ok (.iload_n 2, 1) := by decide +kernel
theorem dd_M_whole_17 : decode bb_M_whole 17 = .ok (.invokevirtual 114, 3) := by decide +kernel
theorem dd_M_whole_20 : decode bb_M_whole 20 = .ok (.idiv, 1) := by decide +kernel
theorem dd_M_whole_21 : decode bb_M_whole 21 = .ok (.ireturn, 1) := by decide +kernel
theorem dd_M_both_0 : decode bb_M_both 0 = .ok (.aload_n 0, 1) := by decide +kernel
theorem dd_M_both_1 : decode bb_M_both 1 = .ok (.iload_n 1, 1) := by decide +kernel
theorem dd_M_both_2 : decode bb_M_both 2 = .ok (.invokevirtual 95, 3) := by decide +kernel
theorem dd_M_both_5 : decode bb_M_both 5 = .ok (.ifCond .eq 20, 3) := by decide +kernel
theorem dd_M_both_8 : decode bb_M_both 8 = .ok (.aload_n 0, 1) := by decide +kernel
theorem dd_M_both_9 : decode bb_M_both 9 = .ok (.iload_n 2, 1) := by decide +kernel
theorem dd_M_both_10 : decode bb_M_both 10 = .ok (.invokevirtual 95, 3) := by decide +kernel
theorem dd_M_both_13 : decode bb_M_both 13 = .ok (.ifCond .eq 12, 3) := by decide +kernel
theorem dd_M_both_16 : decode bb_M_both 16 = .ok (.iload_n 1, 1) := by decide +kernel
theorem dd_M_both_17 : decode bb_M_both 17 = .ok (.iload_n 2, 1) := by decide +kernel
theorem dd_M_both_18 : decode bb_M_both 18 = .ok (.if_icmp .eq 7, 3) := by decide +kernel
theorem dd_M_both_21 : decode bb_M_both 21 = .ok (.iconst 1, 1) := by decide +kernel
theorem dd_M_both_22 : decode bb_M_both 22 = .ok (.goto 4, 3) := by decide +kernel
theorem dd_M_both_25 : decode bb_M_both 25 = .ok (.iconst 0, 1) := by decide +kernel
theorem dd_M_both_26 : decode bb_M_both 26 = .ok (.istore 4, 2) := by decide +kernel
theorem dd_M_both_28 : decode bb_M_both 28 = .ok (.iload 4, 2) := by decide +kernel
theorem dd_M_both_30 : decode bb_M_both 30 = .ok (.ifCond .eq 23, 3) := by decide +kernel
theorem dd_M_both_33 : decode bb_M_both 33 = .ok (.aload_n 0, 1) := by decide +kernel
theorem dd_M_both_34 : decode bb_M_both 34 = .ok (.iload_n 1, 1) := by decide +kernel
theorem dd_M_both_35 : decode bb_M_both 35 = .ok (.invokevirtual 107, 3) := by decide +kernel
theorem dd_M_both_38 : decode bb_M_both 38 = .ok (.ifCond .lt 15, 3) := by decide +kernel
theorem dd_M_both_41 : decode bb_M_both 41 = .ok (.aload_n 0, 1) := by decide +kernel
theorem dd_M_both_42 : decode bb_M_both 42 = .ok (.iload_n 2, 1) := by decide +kernel
theorem dd_M_both_43 : decode bb_M_both 43 = .ok (.invokevirtual 107, 3) := by decide +kernel
theorem dd_M_both_46 : decode bb_M_both 46 = .ok (.ifCond .lt 7, 3) := by decide +kernel
theorem dd_M_both_49 : decode bb_M_both 49 = .ok (.iconst 1, 1) := by decide +kernel
theorem dd_M_both_50 : decode bb_M_both 50 = .ok (.goto 4, 3) := by decide +kernel
theorem dd_M_both_53 : decode bb_M_both 53 = .ok (.iconst 0, 1) := by decide +kernel
theorem dd_M_both_54 : decode bb_M_both 54 = .ok (.istore 5, 2) := by decide +kernel
theorem dd_M_both_56 : decode bb_M_both 56 = .ok (.aload_n 0, 1) := by decide +kernel
theorem dd_M_both_57 : decode bb_M_both 57 = .ok (.iload 4, 2) := by decide +kernel
theorem dd_M_both_59 : decode bb_M_both 59 = .ok (.iload_n 3, 1) := by decide +kernel
theorem dd_M_both_60 : decode bb_M_both 60 = .ok (.invokestatic 101, 3) := by decide +kernel
theorem dd_M_both_63 : decode bb_M_both 63 = .ok (.iload 5, 2) := by decide +kernel
theorem dd_M_both_65 : decode bb_M_both 65 = .ok (.iload 5, 2) := by decide +kernel
theorem dd_M_both_67 : decode bb_M_both 67 = .ok (.ifCond .eq 33, 3) := by decide +kernel
theorem dd_M_both_70 : decode bb_M_both 70 = .ok (.aload_n 0, 1) := by decide +kernel
theorem dd_M_both_71 : decode bb_M_both 71 = .ok (.aload_n 0, 1) := by decide +kernel
theorem dd_M_both_72 : decode bb_M_both 72 = .ok (.iload_n 1, 1) := by decide +kernel
theorem dd_M_both_73 : decode bb_M_both 73 = .ok (.invokevirtual 107, 3) := by decide +kernel
theorem dd_M_both_76 : decode bb_M_both 76 = .ok (.iload_n 3, 1) := by decide +kernel
theorem dd_M_both_77 : decode bb_M_both 77 = .ok (.invokevirtual 111, 3) := by decide +kernel
theorem dd_M_both_80 : decode bb_M_both 80 = .ok (.ifCond .eq 20, 3) := by decide +kernel
theorem dd_M_both_83 : decode bb_M_both 83 = .ok (.aload_n 0, 1) := by decide +kernel
theorem dd_M_both_84 : decode bb_M_both 84 = .ok (.aload_n 0, 1) := by decide +kernel
theorem dd_M_both_85 : decode bb_M_both 85 = .ok (.iload_n 2, 1) := by decide +kernel
theorem dd_M_both_86 : decode bb_M_both 86 = .ok (.invokevirtual 107, 3) := by decide +kernel
theorem dd_M_both_89 : decode bb_M_both 89 = .ok (.iload_n 3, 1) := by decide +kernel
theorem dd_M_both_90 : decode bb_M_both 90 = .ok (.invokevirtual 111, 3) := by decide +kernel
theorem dd_M_both_93 : decode bb_M_both 93 = .ok (.ifCond .eq 7, 3) := by decide +kernel
theorem dd_M_both_96 : decode bb_M_both 96 = .ok (.iconst 1, 1) := by decide +kernel
theorem dd_M_both_97 : decode bb_M_both 97 = .ok (.goto 4, 3) := by decide +kernel
theorem dd_M_both_100 : decode bb_M_both 100 = .ok (.iconst 0, 1) := by decide +kernel
theorem dd_M_both_101 : decode bb_M_both 101 = .ok (.invokevirtual 83, 3) := by decide +kernel
theorem dd_M_both_104 : decode bb_M_both 104 = .ok (.ifCond .ne 5, 3) := by decide +kernel
theorem dd_M_both_107 : decode bb_M_both 107 = .ok (.iconst 0, 1) := by decide +kernel
theorem dd_M_both_108 : decode bb_M_both 108 = .ok (.ireturn, 1) := by decide +kernel
theorem dd_M_both_109 : decode bb_M_both 109 = .ok (.aload_n 0, 1) := by decide +kernel
theorem dd_M_both_110 : decode bb_M_both 110 = .ok (.iload_n 1, 1) := by decide +kernel
theorem dd_M_both_111 : decode bb_M_both 111 = .ok (.iload_n 3, 1) := by decide +kernel
theorem dd_M_both_112 : decode bb_M_both 112 = .ok (.invokevirtual 131, 3) := by decide +kernel
theorem dd_M_both_115 : decode bb_M_both 115 = .ok (.aload_n 0, 1) := by decide +kernel
theorem dd_M_both_116 : decode bb_M_both 116 = .ok (.iload_n 2, 1) := by decide +kernel
theorem dd_M_both_117 : decode bb_M_both 117 = .ok (.iload_n 3, 1) := by decide +kernel
theorem dd_M_both_118 : decode bb_M_both 118 = .ok (.invokevirtual 131, 3) := by decide +kernel
theorem dd_M_both_121 : decode bb_M_both 121 = .ok (.iadd, 1) := by decide +kernel
theorem dd_M_both_122 : decode bb_M_both 122 = .ok (.istore 6, 2) := by decide +kernel
theorem dd_M_both_124 : decode bb_M_both 124 = .ok (.aload_n 0, 1) := by decide +kernel
theorem dd_M_both_125 : decode bb_M_both 125 = .ok (.getfield 16, 3) := by decide +kernel
theorem dd_M_both_128 : decode bb_M_both 128 = .ok (.iload_n 1, 1) := by decide +kernel
theorem dd_M_both_129 : decode bb_M_both 129 = .ok (.iaload, 1) := by decide +kernel
theorem dd_M_both_130 : decode bb_M_both 130 = .ok (.aload_n 0, 1) := by decide +kernel
theorem dd_M_both_131 : decode bb_M_both 131 = .ok (.getfield 16, 3) := by decide +kernel
theorem dd_M_both_134 : decode bb_M_both 134 = .ok (.iload_n 2, 1) := by decide +kernel
theorem dd_M_both_135 : decode bb_M_both 135 = .ok (.iaload, 1) := by decide +kernel
theorem dd_M_both_136 : decode bb_M_both 136 = .ok (.if_icmp .eq 6, 3) := by decide +kernel
theorem dd_M_both_139 : decode bb_M_both 139 = .ok (.iload 6, 2) := by decide +kernel
theorem dd_M_both_141 : decode bb_M_both 141 = .ok (.ireturn, 1) := by decide +kernel
theorem dd_M_both_142 : decode bb_M_both 142 = .ok (.iconst 3, 1) := by decide +kernel
theorem dd_M_both_143 : decode bb_M_both 143 = .ok (.iload 6, 2) := by decide +kernel
theorem dd_M_both_145 : decode bb_M_both 145 = .ok (.imul, 1) := by decide +kernel
theorem dd_M_both_146 : decode bb_M_both 146 = .ok (.iconst 4, 1) := by decide +kernel
theorem dd_M_both_147 : decode bb_M_both 147 = .ok (.idiv, 1) := by decide +kernel
theorem dd_M_both_148 : decode bb_M_both 148 = .ok (.istore 7, 2) := by decide +kernel
theorem dd_M_both_150 : decode bb_M_both 150 = .ok (.iload 7, 2) := by decide +kernel
theorem dd_M_both_152 : decode bb_M_both 152 = .ok (.aload_n 0, 1) := by decide +kernel
theorem dd_M_both_153 : decode bb_M_both 153 = .ok (.getfield 38, 3) := by decide +kernel
theorem dd_M_both_156 : decode bb_M_both 156 = .ok (.aload_n 0, 1) := by decide +kernel
theorem dd_M_both_157 : decode bb_M_both 157 = .ok (.getfield 16, 3) := by decide +kernel
theorem dd_M_both_160 : decode bb_M_both 160 = .ok (.iload_n 1, 1) := by decide +kernel
theorem dd_M_both_161 : decode bb_M_both 161 = .ok (.iaload, 1) := by decide +kernel
theorem dd_M_both_162 : decode bb_M_both 162 = .ok (.iaload, 1) := by decide +kernel
theorem dd_M_both_163 : decode bb_M_both 163 = .ok (.if_icmp .le 17, 3) := by decide +kernel
theorem dd_M_both_166 : decode bb_M_both 166 = .ok (.aload_n 0, 1) := by decide +kernel
theorem dd_M_both_167 : decode bb_M_both 167 = .ok (.getfield 38, 3) := by decide +kernel
theorem dd_M_both_170 : decode bb_M_both 170 = .ok (.aload_n 0, 1) := by decide +kernel
theorem dd_M_both_171 : decode bb_M_both 171 = .ok (.getfield 16, 3) := by decide +kernel
theorem dd_M_both_174 : decode bb_M_both 174 = .ok (.iload_n 1, 1) := by decide +kernel
theorem dd_M_both_175 : decode bb_M_both 175 = .ok (.iaload, 1) := by decide +kernel
theorem dd_M_both_176 : decode bb_M_both 176 = .ok (.iaload, 1) := by decide +kernel
theorem dd_M_both_177 : decode bb_M_both 177 = .ok (.goto 5, 3) := by decide +kernel
theorem dd_M_both_180 : decode bb_M_both 180 = .ok (.iload 7, 2) := by decide +kernel
theorem dd_M_both_182 : decode bb_M_both 182 = .ok (.ireturn, 1) := by decide +kernel
theorem dd_M_supply_0 : decode bb_M_supply 0 = .ok (.aload_n 0, 1) := by decide +kernel
theorem dd_M_supply_1 : decode bb_M_supply 1 = .ok (.iload_n 1, 1) := by decide +kernel
theorem dd_M_supply_2 : decode bb_M_supply 2 = .ok (.iload_n 2, 1) := by decide +kernel
theorem dd_M_supply_3 : decode bb_M_supply 3 = .ok (.invokestatic 79, 3) := by decide +kernel
theorem dd_M_supply_6 : decode bb_M_supply 6 = .ok (.ifCond .eq 33, 3) := by decide +kernel
theorem dd_M_supply_9 : decode bb_M_supply 9 = .ok (.iload_n 3, 1) := by decide +kernel
theorem dd_M_supply_10 : decode bb_M_supply 10 = .ok (.invokestatic 98, 3) := by decide +kernel
theorem dd_M_supply_13 : decode bb_M_supply 13 = .ok (.ifCond .eq 26, 3) := by decide +kernel
theorem dd_M_supply_16 : decode bb_M_supply 16 = .ok (.iload 4, 2) := by decide +kernel
theorem dd_M_supply_18 : decode bb_M_supply 18 = .ok (.invokestatic 101, 3) := by decide +kernel
theorem dd_M_supply_21 : decode bb_M_supply 21 = .ok (.ifCond .eq 18, 3) := by decide +kernel
theorem dd_M_supply_24 : decode bb_M_supply 24 = .ok (.iload 5, 2) := by decide +kernel
theorem dd_M_supply_26 : decode bb_M_supply 26 = .ok (.iconst 0, 1) := by decide +kernel
theorem dd_M_supply_27 : decode bb_M_supply 27 = .ok (.ldc 134, 2) := by decide +kernel
theorem dd_M_supply_29 : decode bb_M_supply 29 = .ok (.invokestatic 72, 3) := by decide +kernel
theorem dd_M_supply_32 : decode bb_M_supply 32 = .ok (.ifCond .eq 7, 3) := by decide +kernel
theorem dd_M_supply_35 : decode bb_M_supply 35 = .ok (.iconst 1, 1) := by decide +kernel
theorem dd_M_supply_36 : decode bb_M_supply 36 = .ok (.goto 4, 3) := by decide +kernel
theorem dd_M_supply_39 : decode bb_M_supply 39 = .ok (.iconst 0, 1) := by decide +kernel
theorem dd_M_supply_40 : decode bb_M_supply 40 = .ok (.iconst 1, 1) := by decide +kernel
theorem dd_M_supply_41 : decode bb_M_supply 41 = .ok (.iconst 1, 1) := by decide +kernel
theorem dd_M_supply_42 : decode bb_M_supply 42 = .ok (.iconst 1, 1) := by decide +kernel
theorem dd_M_supply_43 : decode bb_M_supply 43 = .ok (.invokevirtual 83, 3) := by decide +kernel
theorem dd_M_supply_46 : decode bb_M_supply 46 = .ok (.ifCond .ne 5, 3) := by decide +kernel
theorem dd_M_supply_49 : decode bb_M_supply 49 = .ok (.iconst 0, 1) := by decide +kernel
theorem dd_M_supply_50 : decode bb_M_supply 50 = .ok (.ireturn, 1) := by decide +kernel
theorem dd_M_supply_51 : decode bb_M_supply 51 = .ok (.iconst 0, 1) := by decide +kernel
theorem dd_M_supply_52 : decode bb_M_supply 52 = .ok (.istore 6, 2) := by decide +kernel
theorem dd_M_supply_54 : decode bb_M_supply 54 = .ok (.iconst 0, 1) := by decide +kernel
theorem dd_M_supply_55 : decode bb_M_supply 55 = .ok (.istore 7, 2) := by decide +kernel
theorem dd_M_supply_57 : decode bb_M_supply 57 = .ok (.iload 7, 2) := by decide +kernel
theorem dd_M_supply_59 : decode bb_M_supply 59 = .ok (.bipush 20, 2) := by decide +kernel
theorem dd_M_supply_61 : decode bb_M_supply 61 = .ok (.if_icmp .ge 134, 3) := by decide +kernel
theorem dd_M_supply_64 : decode bb_M_supply 64 = .ok (.iconst 0, 1) := by decide +kernel
theorem dd_M_supply_65 : decode bb_M_supply 65 = .ok (.istore 8, 2) := by decide +kernel
theorem dd_M_supply_67 : decode bb_M_supply 67 = .ok (.iconst 0, 1) := by decide +kernel
theorem dd_M_supply_68 : decode bb_M_supply 68 = .ok (.istore 9, 2) := by decide +kernel
theorem dd_M_supply_70 : decode bb_M_supply 70 = .ok (.iload 9, 2) := by decide +kernel
theorem dd_M_supply_72 : decode bb_M_supply 72 = .ok (.aload_n 0, 1) := by decide +kernel
theorem dd_M_supply_73 : decode bb_M_supply 73 = .ok (.getfield 69, 3) := by decide +kernel
theorem dd_M_supply_76 : decode bb_M_supply 76 = .ok (.if_icmp .ge 84, 3) := by decide +kernel
theorem dd_M_supply_79 : decode bb_M_supply 79 = .ok (.aload_n 0, 1) := by decide +kernel
theorem dd_M_supply_80 : decode bb_M_supply 80 = .ok (.getfield 16, 3) := by decide +kernel
theorem dd_M_supply_83 : decode bb_M_supply 83 = .ok (.iload 9, 2) := by decide +kernel
theorem dd_M_supply_85 : decode bb_M_supply 85 = .ok (.iaload, 1) := by decide +kernel
theorem dd_M_supply_86 : decode bb_M_supply 86 = .ok (.iload 7, 2) := by decide +kernel
theorem dd_M_supply_88 : decode bb_M_supply 88 = .ok (.if_icmp .ne 66, 3) := by decide +kernel
theorem dd_M_supply_91 : decode bb_M_supply 91 = .ok (.aload_n 0, 1) := by decide +kernel
theorem dd_M_supply_92 : decode bb_M_supply 92 = .ok (.iload 9, 2) := by decide +kernel
theorem dd_M_supply_94 : decode bb_M_supply 94 = .ok (.iload_n 3, 1) := by decide +kernel
theorem dd_M_supply_95 : decode bb_M_supply 95 = .ok (.invokevirtual 121, 3) := by decide +kernel
theorem dd_M_supply_98 : decode bb_M_supply 98 = .ok (.ifCond .eq 56, 3) := by decide +kernel
theorem dd_M_supply_101 : decode bb_M_supply 101 = .ok (.aload_n 0, 1) := by decide +kernel
theorem dd_M_supply_102 : decode bb_M_supply 102 = .ok (.iload_n 1, 1) := by decide +kernel
theorem dd_M_supply_103 : decode bb_M_supply 103 = .ok (.iload_n 2, 1) := by decide +kernel
theorem dd_M_supply_104 : decode bb_M_supply 104 = .ok (.iload 9, 2) := by decide +kernel
theorem dd_M_supply_106 : decode bb_M_supply 106 = .ok (.invokevirtual 127, 3) := by decide +kernel
theorem dd_M_supply_109 : decode bb_M_supply 109 = .ok (.iload 5, 2) := by decide +kernel
theorem dd_M_supply_111 : decode bb_M_supply 111 = .ok (.if_icmp .gt 43, 3) := by decide +kernel
theorem dd_M_supply_114 : decode bb_M_supply 114 = .ok (.aload_n 0, 1) := by decide +kernel
theorem dd_M_supply_115 : decode bb_M_supply 115 = .ok (.iload 9, 2) := by decide +kernel
theorem dd_M_supply_117 : decode bb_M_supply 117 = .ok (.invokevirtual 107, 3) := by decide +kernel
theorem dd_M_supply_120 : decode bb_M_supply 120 = .ok (.ifCond .lt 34, 3) := by decide +kernel
theorem dd_M_supply_123 : decode bb_M_supply 123 = .ok (.aload_n 0, 1) := by decide +kernel
theorem dd_M_supply_124 : decode bb_M_supply 124 = .ok (.aload_n 0, 1) := by decide +kernel
theorem dd_M_supply_125 : decode bb_M_supply 125 = .ok (.iload 9, 2) := by decide +kernel
theorem dd_M_supply_127 : decode bb_M_supply 127 = .ok (.invokevirtual 107, 3) := by decide +kernel
theorem dd_M_supply_130 : decode bb_M_supply 130 = .ok (.iload 4, 2) := by decide +kernel
theorem dd_M_supply_132 : decode bb_M_supply 132 = .ok (.invokevirtual 111, 3) := by decide +kernel
theorem dd_M_supply_135 : decode bb_M_supply 135 = .ok (.ifCond .ne 6, 3) := by decide +kernel
theorem dd_M_supply_138 : decode bb_M_supply 138 = .ok (.goto 16, 3) := by decide +kernel
theorem dd_M_supply_141 : decode bb_M_supply 141 = .ok (.iload 8, 2) := by decide +kernel
theorem dd_M_supply_143 : decode bb_M_supply 143 = .ok (.aload_n 0, 1) := by decide +kernel
theorem dd_M_supply_144 : decode bb_M_supply 144 = .ok (.iload 9, 2) := by decide +kernel
theorem dd_M_supply_146 : decode bb_M_supply 146 = .ok (.iload 4, 2) := by decide +kernel
theorem dd_M_supply_148 : decode bb_M_supply 148 = .ok (.invokevirtual 131, 3) := by decide +kernel
theorem dd_M_supply_151 : decode bb_M_supply 151 = .ok (.iadd, 1) := by decide +kernel
theorem dd_M_supply_152 : decode bb_M_supply 152 = .ok (.istore 8, 2) := by decide +kernel
theorem dd_M_supply_154 : decode bb_M_supply 154 = .ok (.iinc 9 1, 3) := by decide +kernel
theorem dd_M_supply_157 : decode bb_M_supply 157 = .ok (.goto (-87), 3) := by decide +kernel
theorem dd_M_supply_160 : decode bb_M_supply 160 = .ok (.iload 6, 2) := by decide +kernel
theorem dd_M_supply_162 : decode bb_M_supply 162 = .ok (.iload 8, 2) := by decide +kernel
theorem dd_M_supply_164 : decode bb_M_supply 164 = .ok (.aload_n 0, 1) := by decide +kernel
theorem dd_M_supply_165 : decode bb_M_supply 165 = .ok (.getfield 38, 3) := by decide +kernel
theorem dd_M_supply_168 : decode bb_M_supply 168 = .ok (.iload 7, 2) := by decide +kernel
theorem dd_M_supply_170 : decode bb_M_supply 170 = .ok (.iaload, 1) := by decide +kernel
theorem dd_M_supply_171 : decode bb_M_supply 171 = .ok (.if_icmp .le 13, 3) := by decide +kernel
theorem dd_M_supply_174 : decode bb_M_supply 174 = .ok (.aload_n 0, 1) := by decide +kernel
theorem dd_M_supply_175 : decode bb_M_supply 175 = .ok (.getfield 38, 3) := by decide +kernel
theorem dd_M_supply_178 : decode bb_M_supply 178 = .ok (.iload 7, 2) := by decide +kernel
theorem dd_M_supply_180 : decode bb_M_supply 180 = .ok (.iaload, 1) := by decide +kernel
theorem dd_M_supply_181 : decode bb_M_supply 181 = .ok (.goto 5, 3) := by decide +kernel
theorem dd_M_supply_184 : decode bb_M_supply 184 = .ok (.iload 8, 2) := by decide +kernel
theorem dd_M_supply_186 : decode bb_M_supply 186 = .ok (.iadd, 1) := by decide +kernel
theorem dd_M_supply_187 : decode bb_M_supply 187 = .ok (.istore 6, 2) := by decide +kernel
theorem dd_M_supply_189 : decode bb_M_supply 189 = .ok (.iinc 7 1, 3) := by decide +kernel
theorem dd_M_supply_192 : decode bb_M_supply 192 = .ok (.goto (-135), 3) := by decide +kernel
theorem dd_M_supply_195 : decode bb_M_supply 195 = .ok (.iload 6, 2) := by decide +kernel
theorem dd_M_supply_197 : decode bb_M_supply 197 = .ok (.ireturn, 1) := by decide +kernel
theorem dd_M_metres_0 : decode bb_M_metres 0 = .ok (.iconst 0, 1) := by decide +kernel
theorem dd_M_metres_1 : decode bb_M_metres 1 = .ok (.istore_n 2, 1) := by decide +kernel
theorem dd_M_metres_2 : decode bb_M_metres 2 = .ok (.iconst 0, 1) := by decide +kernel
theorem dd_M_metres_3 : decode bb_M_metres 3 = .ok (.istore_n 3, 1) := by decide +kernel
theorem dd_M_metres_4 : decode bb_M_metres 4 = .ok (.iconst 0, 1) := by decide +kernel
theorem dd_M_metres_5 : decode bb_M_metres 5 = .ok (.istore 4, 2) := by decide +kernel
theorem dd_M_metres_7 : decode bb_M_metres 7 = .ok (.iconst 0, 1) := by decide +kernel
theorem dd_M_metres_8 : decode bb_M_metres 8 = .ok (.istore 5, 2) := by decide +kernel
theorem dd_M_metres_10 : decode bb_M_metres 10 = .ok (.iload 5, 2) := by decide +kernel
theorem dd_M_metres_12 : decode bb_M_metres 12 = .ok (.iload_n 1, 1) := by decide +kernel
theorem dd_M_metres_13 : decode bb_M_metres 13 = .ok (.if_icmp .ge 53, 3) := by decide +kernel
theorem dd_M_metres_16 : decode bb_M_metres 16 = .ok (.iload_n 2, 1) := by decide +kernel
theorem dd_M_metres_17 : decode bb_M_metres 17 = .ok (.aload_n 0, 1) := by decide +kernel
theorem dd_M_metres_18 : decode bb_M_metres 18 = .ok (.iload_n 3, 1) := by decide +kernel
theorem dd_M_metres_19 : decode bb_M_metres 19 = .ok (.iload 4, 2) := by decide +kernel
theorem dd_M_metres_21 : decode bb_M_metres 21 = .ok (.aload_n 0, 1) := by decide +kernel
theorem dd_M_metres_22 : decode bb_M_metres 22 = .ok (.getfield 59, 3) := by decide +kernel
theorem dd_M_metres_25 : decode bb_M_metres 25 = .ok (.iload 5, 2) := by decide +kernel
theorem dd_M_metres_27 : decode bb_M_metres 27 = .ok (.iaload, 1) := by decide +kernel
theorem dd_M_metres_28 : decode bb_M_metres 28 = .ok (.invokevirtual 127, 3) := by decide +kernel
theorem dd_M_metres_31 : decode bb_M_metres 31 = .ok (.iadd, 1) := by decide +kernel
theorem dd_M_metres_32 : decode bb_M_metres 32 = .ok (.istore_n 2, 1) := by decide +kernel
theorem dd_M_metres_33 : decode bb_M_metres 33 = .ok (.aload_n 0, 1) := by decide +kernel
theorem dd_M_metres_34 : decode bb_M_metres 34 = .ok (.getfield 7, 3) := by decide +kernel
theorem dd_M_metres_37 : decode bb_M_metres 37 = .ok (.aload_n 0, 1) := by decide +kernel
theorem dd_M_metres_38 : decode bb_M_metres 38 = .ok (.getfield 59, 3) := by decide +kernel
theorem dd_M_metres_41 : decode bb_M_metres 41 = .ok (.iload 5, 2) := by decide +kernel
theorem dd_M_metres_43 : decode bb_M_metres 43 = .ok (.iaload, 1) := by decide +kernel
theorem dd_M_metres_44 : decode bb_M_metres 44 = .ok (.iaload, 1) := by decide +kernel
theorem dd_M_metres_45 : decode bb_M_metres 45 = .ok (.istore_n 3, 1) := by decide +kernel
theorem dd_M_metres_46 : decode bb_M_metres 46 = .ok (.aload_n 0, 1) := by decide +kernel
theorem dd_M_metres_47 : decode bb_M_metres 47 = .ok (.getfield 13, 3) := by decide +kernel
theorem dd_M_metres_50 : decode bb_M_metres 50 = .ok (.aload_n 0, 1) := by decide +kernel
theorem dd_M_metres_51 : decode bb_M_metres 51 = .ok (.getfield 59, 3) := by decide +kernel
theorem dd_M_metres_54 : decode bb_M_metres 54 = .ok (.iload 5, 2) := by decide +kernel
theorem dd_M_metres_56 : decode bb_M_metres 56 = .ok (.iaload, 1) := by decide +kernel
theorem dd_M_metres_57 : decode bb_M_metres 57 = .ok (.iaload, 1) := by decide +kernel
theorem dd_M_metres_58 : decode bb_M_metres 58 = .ok (.istore 4, 2) := by decide +kernel
theorem dd_M_metres_60 : decode bb_M_metres 60 = .ok (.iinc 5 1, 3) := by decide +kernel
theorem dd_M_metres_63 : decode bb_M_metres 63 = .ok (.goto (-53), 3) := by decide +kernel
theorem dd_M_metres_66 : decode bb_M_metres 66 = .ok (.iload_n 2, 1) := by decide +kernel
theorem dd_M_metres_67 : decode bb_M_metres 67 = .ok (.iload_n 3, 1) := by decide +kernel
theorem dd_M_metres_68 : decode bb_M_metres 68 = .ok (.invokestatic 124, 3) := by decide +kernel
theorem dd_M_metres_71 : decode bb_M_metres 71 = .ok (.iadd, 1) := by decide +kernel
theorem dd_M_metres_72 : decode bb_M_metres 72 = .ok (.iload 4, 2) := by decide +kernel
theorem dd_M_metres_74 : decode bb_M_metres 74 = .ok (.invokestatic 124, 3) := by decide +kernel
theorem dd_M_metres_77 : decode bb_M_metres 77 = .ok (.iadd, 1) := by decide +kernel
theorem dd_M_metres_78 : decode bb_M_metres 78 = .ok (.ireturn, 1) := by decide +kernel
theorem dd_M_arranges_0 : decode bb_M_arranges 0 = .ok (.iload_n 2, 1) := by decide +kernel
theorem dd_M_arranges_1 : decode bb_M_arranges 1 = .ok (.istore_n 3, 1) := by decide +kernel
theorem dd_M_arranges_2 : decode bb_M_arranges 2 = .ok (.iconst 0, 1) := by decide +kernel
theorem dd_M_arranges_3 : decode bb_M_arranges 3 = .ok (.istore 4, 2) := by decide +kernel
theorem dd_M_arranges_5 : decode bb_M_arranges 5 = .ok (.iload_n 1, 1) := by decide +kernel
theorem dd_M_arranges_6 : decode bb_M_arranges 6 = .ok (.iconst 1, 1) := by decide +kernel
theorem dd_M_arranges_7 : decode bb_M_arranges 7 = .ok (.isub, 1) := by decide +kernel
theorem dd_M_arranges_8 : decode bb_M_arranges 8 = .ok (.istore 5, 2) := by decide +kernel
theorem dd_M_arranges_10 : decode bb_M_arranges 10 = .ok (.iload 5, 2) := by decide +kernel
theorem dd_M_arranges_12 : decode bb_M_arranges 12 = .ok (.ifCond .lt 62, 3) := by decide +kernel
theorem dd_M_arranges_15 : decode bb_M_arranges 15 = .ok (.iload_n 3, 1) := by decide +kernel
theorem dd_M_arranges_16 : decode bb_M_arranges 16 = .ok (.bipush 6, 2) := by decide +kernel
theorem dd_M_arranges_18 : decode bb_M_arranges 18 = .ok (.irem, 1) := by decide +kernel
theorem dd_M_arranges_19 : decode bb_M_arranges 19 = .ok (.istore 6, 2) := by decide +kernel
theorem dd_M_arranges_21 : decode bb_M_arranges 21 = .ok (.iload_n 3, 1) := by decide +kernel
theorem dd_M_arranges_22 : decode bb_M_arranges 22 = .ok (.bipush 6, 2) := by decide +kernel
theorem dd_M_arranges_24 : decode bb_M_arranges 24 = .ok (.idiv, 1) := by decide +kernel
theorem dd_M_arranges_25 : decode bb_M_arranges 25 = .ok (.istore_n 3, 1) := by decide +kernel
theorem dd_M_arranges_26 : decode bb_M_arranges 26 = .ok (.iload 6, 2) := by decide +kernel
theorem dd_M_arranges_28 : decode bb_M_arranges 28 = .ok (.iload_n 1, 1) := by decide +kernel
theorem dd_M_arranges_29 : decode bb_M_arranges 29 = .ok (.if_icmp .ge 14, 3) := by decide +kernel
theorem dd_M_arranges_32 : decode bb_M_arranges 32 = .ok (.iload 4, 2) := by decide +kernel
theorem dd_M_arranges_34 : decode bb_M_arranges 34 = .ok (.iload 6, 2) := by decide +kernel
theorem dd_M_arranges_36 : decode bb_M_arranges 36 = .ok (.ishr, 1) := by decide +kernel
theorem dd_M_arranges_37 : decode bb_M_arranges 37 = .ok (.iconst 1, 1) := by decide +kernel
theorem dd_M_arranges_38 : decode bb_M_arranges 38 = .ok (.iand, 1) := by decide +kernel
theorem dd_M_arranges_39 : decode bb_M_arranges 39 = .ok (.iconst 1, 1) := by decide +kernel
theorem dd_M_arranges_40 : decode bb_M_arranges 40 = .ok (.if_icmp .ne 5, 3) := by decide +kernel
theorem dd_M_arranges_43 : decode bb_M_arranges 43 = .ok (.iconst 0, 1) := by decide +kernel
theorem dd_M_arranges_44 : decode bb_M_arranges 44 = .ok (.ireturn, 1) := by decide +kernel
theorem dd_M_arranges_45 : decode bb_M_arranges 45 = .ok (.iload 4, 2) := by decide +kernel
theorem dd_M_arranges_47 : decode bb_M_arranges 47 = .ok (.iconst 1, 1) := by decide +kernel
theorem dd_M_arranges_48 : decode bb_M_arranges 48 = .ok (.iload 6, 2) := by decide +kernel
theorem dd_M_arranges_50 : decode bb_M_arranges 50 = .ok (.ishl, 1) := by decide +kernel
theorem dd_M_arranges_51 : decode bb_M_arranges 51 = .ok (.ior, 1) := by decide +kernel
theorem dd_M_arranges_52 : decode bb_M_arranges 52 = .ok (.istore 4, 2) := by decide +kernel
theorem dd_M_arranges_54 : decode bb_M_arranges 54 = .ok (.aload_n 0, 1) := by decide +kernel
theorem dd_M_arranges_55 : decode bb_M_arranges 55 = .ok (.getfield 59, 3) := by decide +kernel
theorem dd_M_arranges_58 : decode bb_M_arranges 58 = .ok (.iload 5, 2) := by decide +kernel
theorem dd_M_arranges_60 : decode bb_M_arranges 60 = .ok (.aload_n 0, 1) := by decide +kernel
theorem dd_M_arranges_61 : decode bb_M_arranges 61 = .ok (.getfield 56, 3) := by decide +kernel
theorem dd_M_arranges_64 : decode bb_M_arranges 64 = .ok (.iload 6, 2) := by decide +kernel
theorem dd_M_arranges_66 : decode bb_M_arranges 66 = .ok (.iaload, 1) := by decide +kernel
theorem dd_M_arranges_67 : decode bb_M_arranges 67 = .ok (.iastore, 1) := by decide +kernel
theorem dd_M_arranges_68 : decode bb_M_arranges 68 = .ok (.iinc 5 (-1), 3) := by decide +kernel
theorem dd_M_arranges_71 : decode bb_M_arranges 71 = .ok (.goto (-61), 3) := by decide +kernel
theorem dd_M_arranges_74 : decode bb_M_arranges 74 = .ok (.iconst 1, 1) := by decide +kernel
theorem dd_M_arranges_75 : decode bb_M_arranges 75 = .ok (.ireturn, 1) := by decide +kernel
theorem dd_M_isAhead_0 : decode bb_M_isAhead 0 = .ok (.iconst 0, 1) := by decide +kernel
theorem dd_M_isAhead_1 : decode bb_M_isAhead 1 = .ok (.istore_n 2, 1) := by decide +kernel
theorem dd_M_isAhead_2 : decode bb_M_isAhead 2 = .ok (.iload_n 2, 1) := by decide +kernel
theorem dd_M_isAhead_3 : decode bb_M_isAhead 3 = .ok (.iload_n 1, 1) := by decide +kernel
theorem dd_M_isAhead_4 : decode bb_M_isAhead 4 = .ok (.if_icmp .ge 45, 3) := by decide +kernel
theorem dd_M_isAhead_7 : decode bb_M_isAhead 7 = .ok (.aload_n 0, 1) := by decide +kernel
theorem dd_M_isAhead_8 : decode bb_M_isAhead 8 = .ok (.getfield 59, 3) := by decide +kernel
theorem dd_M_isAhead_11 : decode bb_M_isAhead 11 = .ok (.iload_n 2, 1) := by decide +kernel
theorem dd_M_isAhead_12 : decode bb_M_isAhead 12 = .ok (.iaload, 1) := by decide +kernel
theorem dd_M_isAhead_13 : decode bb_M_isAhead 13 = .ok (.aload_n 0, 1) := by decide +kernel
theorem dd_M_isAhead_14 : decode bb_M_isAhead 14 = .ok (.getfield 62, 3) := by decide +kernel
theorem dd_M_isAhead_17 : decode bb_M_isAhead 17 = .ok (.iload_n 2, 1) := by decide +kernel
theorem dd_M_isAhead_18 : decode bb_M_isAhead 18 = .ok (.iaload, 1) := by decide +kernel
theorem dd_M_isAhead_19 : decode bb_M_isAhead 19 = .ok (.if_icmp .eq 24, 3) := by decide +kernel
theorem dd_M_isAhead_22 : decode bb_M_isAhead 22 = .ok (.aload_n 0, 1) := by decide +kernel
theorem dd_M_isAhead_23 : decode bb_M_isAhead 23 = .ok (.getfield 59, 3) := by decide +kernel
theorem dd_M_isAhead_26 : decode bb_M_isAhead 26 = .ok (.iload_n 2, 1) := by decide +kernel
theorem dd_M_isAhead_27 : decode bb_M_isAhead 27 = .ok (.iaload, 1) := by decide +kernel
theorem dd_M_isAhead_28 : decode bb_M_isAhead 28 = .ok (.aload_n 0, 1) := by decide +kernel
theorem dd_M_isAhead_29 : decode bb_M_isAhead 29 = .ok (.getfield 62, 3) := by decide +kernel
theorem dd_M_isAhead_32 : decode bb_M_isAhead 32 = .ok (.iload_n 2, 1) := by decide +kernel
theorem dd_M_isAhead_33 : decode bb_M_isAhead 33 = .ok (.iaload, 1) := by decide +kernel
theorem dd_M_isAhead_34 : decode bb_M_isAhead 34 = .ok (.if_icmp .ge 7, 3) := by decide +kernel
theorem dd_M_isAhead_37 : decode bb_M_isAhead 37 = .ok (.iconst 1, 1) := by decide +kernel
theorem dd_M_isAhead_38 : decode bb_M_isAhead 38 = .ok (.goto 4, 3) := by decide +kernel
theorem dd_M_isAhead_41 : decode bb_M_isAhead 41 = .ok (.iconst 0, 1) := by decide +kernel
theorem dd_M_isAhead_42 : decode bb_M_isAhead 42 = .ok (.ireturn, 1) := by decide +kernel
theorem dd_M_isAhead_43 : decode bb_M_isAhead 43 = .ok (.iinc 2 1, 3) := by decide +kernel
theorem dd_M_isAhead_46 : decode bb_M_isAhead 46 = .ok (.goto (-44), 3) := by decide +kernel
theorem dd_M_isAhead_49 : decode bb_M_isAhead 49 = .ok (.iconst 0, 1) := by decide +kernel
theorem dd_M_isAhead_50 : decode bb_M_isAhead 50 = .ok (.ireturn, 1) := by decide +kernel
theorem dd_M_round_0 : decode bb_M_round 0 = .ok (.iconst 1, 1) := by decide +kernel
theorem dd_M_round_1 : decode bb_M_round 1 = .ok (.istore 4, 2) := by decide +kernel
theorem dd_M_round_3 : decode bb_M_round 3 = .ok (.iconst 1, 1) := by decide +kernel
theorem dd_M_round_4 : decode bb_M_round 4 = .ok (.istore 5, 2) := by decide +kernel
theorem dd_M_round_6 : decode bb_M_round 6 = .ok (.iconst 0, 1) := by decide +kernel
theorem dd_M_round_7 : decode bb_M_round 7 = .ok (.istore 6, 2) := by decide +kernel
theorem dd_M_round_9 : decode bb_M_round 9 = .ok (.iload 6, 2) := by decide +kernel
theorem dd_M_round_11 : decode bb_M_round 11 = .ok (.bipush 6, 2) := by decide +kernel
theorem dd_M_round_13 : decode bb_M_round 13 = .ok (.if_icmp .ge 75, 3) := by decide +kernel
theorem dd_M_round_16 : decode bb_M_round 16 = .ok (.iload 6, 2) := by decide +kernel
theorem dd_M_round_18 : decode bb_M_round 18 = .ok (.iload_n 3, 1) := by decide +kernel
theorem dd_M_round_19 : decode bb_M_round 19 = .ok (.if_icmp .ge 69, 3) := by decide +kernel
theorem dd_M_round_22 : decode bb_M_round 22 = .ok (.lload_n 1, 1) := by decide +kernel
theorem dd_M_round_23 : decode bb_M_round 23 = .ok (.bipush 6, 2) := by decide +kernel
theorem dd_M_round_25 : decode bb_M_round 25 = .ok (.iload 6, 2) := by decide +kernel
theorem dd_M_round_27 : decode bb_M_round 27 = .ok (.imul, 1) := by decide +kernel
theorem dd_M_round_28 : decode bb_M_round 28 = .ok (.lshr, 1) := by decide +kernel
theorem dd_M_round_29 : decode bb_M_round 29 = .ok (.l2i, 1) := by decide +kernel
theorem dd_M_round_30 : decode bb_M_round 30 = .ok (.bipush 63, 2) := by decide +kernel
theorem dd_M_round_32 : decode bb_M_round 32 = .ok (.iand, 1) := by decide +kernel
theorem dd_M_round_33 : decode bb_M_round 33 = .ok (.istore 7, 2) := by decide +kernel
theorem dd_M_round_35 : decode bb_M_round 35 = .ok (.aload_n 0, 1) := by decide +kernel
theorem dd_M_round_36 : decode bb_M_round 36 = .ok (.iload 7, 2) := by decide +kernel
theorem dd_M_round_38 : decode bb_M_round 38 = .ok (.invokevirtual 95, 3) := by decide +kernel
theorem dd_M_round_41 : decode bb_M_round 41 = .ok (.ifCond .ne 6, 3) := by decide +kernel
theorem dd_M_round_44 : decode bb_M_round 44 = .ok (.iconst 0, 1) := by decide +kernel
theorem dd_M_round_45 : decode bb_M_round 45 = .ok (.istore 4, 2) := by decide +kernel
theorem dd_M_round_47 : decode bb_M_round 47 = .ok (.iconst 0, 1) := by decide +kernel
theorem dd_M_round_48 : decode bb_M_round 48 = .ok (.istore 8, 2) := by decide +kernel
theorem dd_M_round_50 : decode bb_M_round 50 = .ok (.iload 8, 2) := by decide +kernel
theorem dd_M_round_52 : decode bb_M_round 52 = .ok (.iload 6, 2) := by decide +kernel
theorem dd_M_round_54 : decode bb_M_round 54 = .ok (.if_icmp .ge 28, 3) := by decide +kernel
theorem dd_M_round_57 : decode bb_M_round 57 = .ok (.lload_n 1, 1) := by decide +kernel
theorem dd_M_round_58 : decode bb_M_round 58 = .ok (.bipush 6, 2) := by decide +kernel
theorem dd_M_round_60 : decode bb_M_round 60 = .ok (.iload 8, 2) := by decide +kernel
theorem dd_M_round_62 : decode bb_M_round 62 = .ok (.imul, 1) := by decide +kernel
theorem dd_M_round_63 : decode bb_M_round 63 = .ok (.lshr, 1) := by decide +kernel
theorem dd_M_round_64 : decode bb_M_round 64 = .ok (.l2i, 1) := by decide +kernel
theorem dd_M_round_65 : decode bb_M_round 65 = .ok (.bipush 63, 2) := by decide +kernel
theorem dd_M_round_67 : decode bb_M_round 67 = .ok (.iand, 1) := by decide +kernel
theorem dd_M_round_68 : decode bb_M_round 68 = .ok (.iload 7, 2) := by decide +kernel
theorem dd_M_round_70 : decode bb_M_round 70 = .ok (.if_icmp .ne 6, 3) := by decide +kernel
theorem dd_M_round_73 : decode bb_M_round 73 = .ok (.iconst 0, 1) := by decide +kernel
theorem dd_M_round_74 : decode bb_M_round 74 = .ok (.istore 5, 2) := by decide +kernel
theorem dd_M_round_76 : decode bb_M_round 76 = .ok (.iinc 8 1, 3) := by decide +kernel
theorem dd_M_round_79 : decode bb_M_round 79 = .ok (.goto (-29), 3) := by decide +kernel
theorem dd_M_round_82 : decode bb_M_round 82 = .ok (.iinc 6 1, 3) := by decide +kernel
theorem dd_M_round_85 : decode bb_M_round 85 = .ok (.goto (-76), 3) := by decide +kernel
theorem dd_M_round_88 : decode bb_M_round 88 = .ok (.aload_n 0, 1) := by decide +kernel
theorem dd_M_round_89 : decode bb_M_round 89 = .ok (.iload 4, 2) := by decide +kernel
theorem dd_M_round_91 : decode bb_M_round 91 = .ok (.iload_n 3, 1) := by decide +kernel
theorem dd_M_round_92 : decode bb_M_round 92 = .ok (.iconst 0, 1) := by decide +kernel
theorem dd_M_round_93 : decode bb_M_round 93 = .ok (.bipush 6, 2) := by decide +kernel
theorem dd_M_round_95 : decode bb_M_round 95 = .ok (.invokestatic 72, 3) := by decide +kernel
theorem dd_M_round_98 : decode bb_M_round 98 = .ok (.ifCond .eq 12, 3) := by decide +kernel
theorem dd_M_round_101 : decode bb_M_round 101 = .ok (.iload 5, 2) := by decide +kernel
theorem dd_M_round_103 : decode bb_M_round 103 = .ok (.ifCond .eq 7, 3) := by decide +kernel
theorem dd_M_round_106 : decode bb_M_round 106 = .ok (.iconst 1, 1) := by decide +kernel
theorem dd_M_round_107 : decode bb_M_round 107 = .ok (.goto 4, 3) := by decide +kernel
theorem dd_M_round_110 : decode bb_M_round 110 = .ok (.iconst 0, 1) := by decide +kernel
theorem dd_M_round_111 : decode bb_M_round 111 = .ok (.iconst 1, 1) := by decide +kernel
theorem dd_M_round_112 : decode bb_M_round 112 = .ok (.iconst 1, 1) := by decide +kernel
theorem dd_M_round_113 : decode bb_M_round 113 = .ok (.invokevirtual 83, 3) := by decide +kernel
theorem dd_M_round_116 : decode bb_M_round 116 = .ok (.ifCond .ne 5, 3) := by decide +kernel
theorem dd_M_round_119 : decode bb_M_round 119 = .ok (.iconst 0, 1) := by decide +kernel
theorem dd_M_round_120 : decode bb_M_round 120 = .ok (.ireturn, 1) := by decide +kernel
theorem dd_M_round_121 : decode bb_M_round 121 = .ok (.aload_n 0, 1) := by decide +kernel
theorem dd_M_round_122 : decode bb_M_round 122 = .ok (.iload_n 3, 1) := by decide +kernel
theorem dd_M_round_123 : decode bb_M_round 123 = .ok (.putfield 135, 3) := by decide +kernel
theorem dd_M_round_126 : decode bb_M_round 126 = .ok (.iconst 0, 1) := by decide +kernel
theorem dd_M_round_127 : decode bb_M_round 127 = .ok (.istore 6, 2) := by decide +kernel
theorem dd_M_round_129 : decode bb_M_round 129 = .ok (.iload 6, 2) := by decide +kernel
theorem dd_M_round_131 : decode bb_M_round 131 = .ok (.iload_n 3, 1) := by decide +kernel
theorem dd_M_round_132 : decode bb_M_round 132 = .ok (.if_icmp .ge 27, 3) := by decide +kernel
theorem dd_M_round_135 : decode bb_M_round 135 = .ok (.aload_n 0, 1) := by decide +kernel
theorem dd_M_round_136 : decode bb_M_round 136 = .ok (.getfield 56, 3) := by decide +kernel
theorem dd_M_round_139 : decode bb_M_round 139 = .ok (.iload 6, 2) := by decide +kernel
theorem dd_M_round_141 : decode bb_M_round 141 = .ok (.lload_n 1, 1) := by decide +kernel
theorem dd_M_round_142 : decode bb_M_round 142 = .ok (.bipush 6, 2) := by decide +kernel
theorem dd_M_round_144 : decode bb_M_round 144 = .ok (.iload 6, 2) := by decide +kernel
theorem dd_M_round_146 : decode bb_M_round 146 = .ok (.imul, 1) := by decide +kernel
theorem dd_M_round_147 : decode bb_M_round 147 = .ok (.lshr, 1) := by decide +kernel
theorem dd_M_round_148 : decode bb_M_round 148 = .ok (.l2i, 1) := by decide +kernel
theorem dd_M_round_149 : decode bb_M_round 149 = .ok (.bipush 63, 2) := by decide +kernel
theorem dd_M_round_151 : decode bb_M_round 151 = .ok (.iand, 1) := by decide +kernel
theorem dd_M_round_152 : decode bb_M_round 152 = .ok (.iastore, 1) := by decide +kernel
theorem dd_M_round_153 : decode bb_M_round 153 = .ok (.iinc 6 1, 3) := by decide +kernel
theorem dd_M_round_156 : decode bb_M_round 156 = .ok (.goto (-27), 3) := by decide +kernel
theorem dd_M_round_159 : decode bb_M_round 159 = .ok (.iconst 1, 1) := by decide +kernel
theorem dd_M_round_160 : decode bb_M_round 160 = .ok (.istore 6, 2) := by decide +kernel
theorem dd_M_round_162 : decode bb_M_round 162 = .ok (.iconst 0, 1) := by decide +kernel
theorem dd_M_round_163 : decode bb_M_round 163 = .ok (.istore 7, 2) := by decide +kernel
theorem dd_M_round_165 : decode bb_M_round 165 = .ok (.iload 7, 2) := by decide +kernel
theorem dd_M_round_167 : decode bb_M_round 167 = .ok (.iload_n 3, 1) := by decide +kernel
theorem dd_M_round_168 : decode bb_M_round 168 = .ok (.if_icmp .ge 16, 3) := by decide +kernel
theorem dd_M_round_171 : decode bb_M_round 171 = .ok (.bipush 6, 2) := by decide +kernel
theorem dd_M_round_173 : decode bb_M_round 173 = .ok (.iload 6, 2) := by decide +kernel
theorem dd_M_round_175 : decode bb_M_round 175 = .ok (.imul, 1) := by decide +kernel
theorem dd_M_round_176 : decode bb_M_round 176 = .ok (.istore 6, 2) := by decide +kernel
theorem dd_M_round_178 : decode bb_M_round 178 = .ok (.iinc 7 1, 3) := by decide +kernel
theorem dd_M_round_181 : decode bb_M_round 181 = .ok (.goto (-16), 3) := by decide +kernel
theorem dd_M_round_184 : decode bb_M_round 184 = .ok (.iconst (-1), 1) := by decide +kernel
theorem dd_M_round_185 : decode bb_M_round 185 = .ok (.istore 7, 2) := by decide +kernel
theorem dd_M_round_187 : decode bb_M_round 187 = .ok (.iconst 0, 1) := by decide +kernel
theorem dd_M_round_188 : decode bb_M_round 188 = .ok (.istore 8, 2) := by decide +kernel
theorem dd_M_round_190 : decode bb_M_round 190 = .ok (.iload 8, 2) := by decide +kernel
theorem dd_M_round_192 : decode bb_M_round 192 = .ok (.iload 6, 2) := by decide +kernel
theorem dd_M_round_194 : decode bb_M_round 194 = .ok (.if_icmp .ge 92, 3) := by decide +kernel
theorem dd_M_round_197 : decode bb_M_round 197 = .ok (.aload_n 0, 1) := by decide +kernel
theorem dd_M_round_198 : decode bb_M_round 198 = .ok (.iload_n 3, 1) := by decide +kernel
theorem dd_M_round_199 : decode bb_M_round 199 = .ok (.iload 8, 2) := by decide +kernel
theorem dd_M_round_201 : decode bb_M_round 201 = .ok (.invokevirtual 138, 3) := by decide +kernel
theorem dd_M_round_204 : decode bb_M_round 204 = .ok (.ifCond .ne 6, 3) := by decide +kernel
theorem dd_M_round_207 : decode bb_M_round 207 = .ok (.goto 73, 3) := by decide +kernel
theorem dd_M_round_210 : decode bb_M_round 210 = .ok (.aload_n 0, 1) := by decide +kernel
theorem dd_M_round_211 : decode bb_M_round 211 = .ok (.iload_n 3, 1) := by decide +kernel
theorem dd_M_round_212 : decode bb_M_round 212 = .ok (.invokevirtual 141, 3) := by decide +kernel
theorem dd_M_round_215 : decode bb_M_round 215 = .ok (.istore 9, 2) := by decide +kernel
theorem dd_M_round_217 : decode bb_M_round 217 = .ok (.iload 7, 2) := by decide +kernel
theorem dd_M_round_219 : decode bb_M_round 219 = .ok (.ifCond .lt 28, 3) := by decide +kernel
theorem dd_M_round_222 : decode bb_M_round 222 = .ok (.iload 9, 2) := by decide +kernel
theorem dd_M_round_224 : decode bb_M_round 224 = .ok (.iload 7, 2) := by decide +kernel
theorem dd_M_round_226 : decode bb_M_round 226 = .ok (.if_icmp .gt 54, 3) := by decide +kernel
theorem dd_M_round_229 : decode bb_M_round 229 = .ok (.iload 9, 2) := by decide +kernel
theorem dd_M_round_231 : decode bb_M_round 231 = .ok (.iload 7, 2) := by decide +kernel
theorem dd_M_round_233 : decode bb_M_round 233 = .ok (.if_icmp .ne 14, 3) := by decide +kernel
theorem dd_M_round_236 : decode bb_M_round 236 = .ok (.aload_n 0, 1) := by decide +kernel
theorem dd_M_round_237 : decode bb_M_round 237 = .ok (.iload_n 3, 1) := by decide +kernel
theorem dd_M_round_238 : decode bb_M_round 238 = .ok (.invokevirtual 144, 3) := by decide +kernel
theorem dd_M_round_241 : decode bb_M_round 241 = .ok (.ifCond .ne 6, 3) := by decide +kernel
theorem dd_M_round_244 : decode bb_M_round 244 = .ok (.goto 36, 3) := by decide +kernel
theorem dd_M_round_247 : decode bb_M_round 247 = .ok (.iload 9, 2) := by decide +kernel
theorem dd_M_round_249 : decode bb_M_round 249 = .ok (.istore 7, 2) := by decide +kernel
theorem dd_M_round_251 : decode bb_M_round 251 = .ok (.iconst 0, 1) := by decide +kernel
theorem dd_M_round_252 : decode bb_M_round 252 = .ok (.istore 10, 2) := by decide +kernel
theorem dd_M_round_254 : decode bb_M_round 254 = .ok (.iload 10, 2) := by decide +kernel
theorem dd_M_round_256 : decode bb_M_round 256 = .ok (.iload_n 3, 1) := by decide +kernel
theorem dd_M_round_257 : decode bb_M_round 257 = .ok (.if_icmp .ge 23, 3) := by decide +kernel
theorem dd_M_round_260 : decode bb_M_round 260 = .ok (.aload_n 0, 1) := by decide +kernel
theorem dd_M_round_261 : decode bb_M_round 261 = .ok (.getfield 62, 3) := by decide +kernel
theorem dd_M_round_264 : decode bb_M_round 264 = .ok (.iload 10, 2) := by decide +kernel
theorem dd_M_round_266 : decode bb_M_round 266 = .ok (.aload_n 0, 1) := by decide +kernel
theorem dd_M_round_267 : decode bb_M_round 267 = .ok (.getfield 59, 3) := by decide +kernel
theorem dd_M_round_270 : decode bb_M_round 270 = .ok (.iload 10, 2) := by decide +kernel
theorem dd_M_round_272 : decode bb_M_round 272 = .ok (.iaload, 1) := by decide +kernel
theorem dd_M_round_273 : decode bb_M_round 273 = .ok (.iastore, 1) := by decide +kernel
theorem dd_M_round_274 : decode bb_M_round 274 = .ok (.iinc 10 1, 3) := by decide +kernel
theorem dd_M_round_277 : decode bb_M_round 277 = .ok (.goto (-23), 3) := by decide +kernel
theorem dd_M_round_280 : decode bb_M_round 280 = .ok (.iinc 8 1, 3) := by decide +kernel
theorem dd_M_round_283 : decode bb_M_round 283 = .ok (.goto (-93), 3) := by decide +kernel
theorem dd_M_round_286 : decode bb_M_round 286 = .ok (.iload 7, 2) := by decide +kernel
theorem dd_M_round_288 : decode bb_M_round 288 = .ok (.ireturn, 1) := by decide +kernel
theorem dd_M_stop_0 : decode bb_M_stop 0 = .ok (.aload_n 0, 1) := by decide +kernel
theorem dd_M_stop_1 : decode bb_M_stop 1 = .ok (.iload_n 1, 1) := by decide +kernel
theorem dd_M_stop_2 : decode bb_M_stop 2 = .ok (.ifCond .lt 7, 3) := by decide +kernel
theorem dd_M_stop_5 : decode bb_M_stop 5 = .ok (.iconst 1, 1) := by decide +kernel
theorem dd_M_stop_6 : decode bb_M_stop 6 = .ok (.goto 4, 3) := by decide +kernel
theorem dd_M_stop_9 : decode bb_M_stop 9 = .ok (.iconst 0, 1) := by decide +kernel
theorem dd_M_stop_10 : decode bb_M_stop 10 = .ok (.iconst 1, 1) := by decide +kernel
theorem dd_M_stop_11 : decode bb_M_stop 11 = .ok (.iconst 1, 1) := by decide +kernel
theorem dd_M_stop_12 : decode bb_M_stop 12 = .ok (.iconst 1, 1) := by decide +kernel
theorem dd_M_stop_13 : decode bb_M_stop 13 = .ok (.invokevirtual 83, 3) := by decide +kernel
theorem dd_M_stop_16 : decode bb_M_stop 16 = .ok (.ifCond .ne 5, 3) := by decide +kernel
theorem dd_M_stop_19 : decode bb_M_stop 19 = .ok (.iconst 0, 1) := by decide +kernel
theorem dd_M_stop_20 : decode bb_M_stop 20 = .ok (.ireturn, 1) := by decide +kernel
theorem dd_M_stop_21 : decode bb_M_stop 21 = .ok (.iload_n 1, 1) := by decide +kernel
theorem dd_M_stop_22 : decode bb_M_stop 22 = .ok (.aload_n 0, 1) := by decide +kernel
theorem dd_M_stop_23 : decode bb_M_stop 23 = .ok (.getfield 135, 3) := by decide +kernel
theorem dd_M_stop_26 : decode bb_M_stop 26 = .ok (.if_icmp .ge 12, 3) := by decide +kernel
theorem dd_M_stop_29 : decode bb_M_stop 29 = .ok (.aload_n 0, 1) := by decide +kernel
theorem dd_M_stop_30 : decode bb_M_stop 30 = .ok (.getfield 62, 3) := by decide +kernel
theorem dd_M_stop_33 : decode bb_M_stop 33 = .ok (.iload_n 1, 1) := by decide +kernel
theorem dd_M_stop_34 : decode bb_M_stop 34 = .ok (.iaload, 1) := by decide +kernel
theorem dd_M_stop_35 : decode bb_M_stop 35 = .ok (.goto 4, 3) := by decide +kernel
theorem dd_M_stop_38 : decode bb_M_stop 38 = .ok (.iconst (-1), 1) := by decide +kernel
theorem dd_M_stop_39 : decode bb_M_stop 39 = .ok (.ireturn, 1) := by decide +kernel
theorem dd_M_late_0 : decode bb_M_late 0 = .ok (.aload_n 0, 1) := by decide +kernel
theorem dd_M_late_1 : decode bb_M_late 1 = .ok (.iload_n 1, 1) := by decide +kernel
theorem dd_M_late_2 : decode bb_M_late 2 = .ok (.invokevirtual 107, 3) := by decide +kernel
theorem dd_M_late_5 : decode bb_M_late 5 = .ok (.istore 4, 2) := by decide +kernel
theorem dd_M_late_7 : decode bb_M_late 7 = .ok (.iload 4, 2) := by decide +kernel
theorem dd_M_late_9 : decode bb_M_late 9 = .ok (.ifCond .ge 5, 3) := by decide +kernel
theorem dd_M_late_12 : decode bb_M_late 12 = .ok (.iconst 0, 1) := by decide +kernel
theorem dd_M_late_13 : decode bb_M_late 13 = .ok (.ireturn, 1) := by decide +kernel
theorem dd_M_late_14 : decode bb_M_late 14 = .ok (.iload_n 2, 1) := by decide +kernel
theorem dd_M_late_15 : decode bb_M_late 15 = .ok (.aload_n 0, 1) := by decide +kernel
theorem dd_M_late_16 : decode bb_M_late 16 = .ok (.getfield 44, 3) := by decide +kernel
theorem dd_M_late_19 : decode bb_M_late 19 = .ok (.iload 4, 2) := by decide +kernel
theorem dd_M_late_21 : decode bb_M_late 21 = .ok (.iaload, 1) := by decide +kernel
theorem dd_M_late_22 : decode bb_M_late 22 = .ok (.isub, 1) := by decide +kernel
theorem dd_M_late_23 : decode bb_M_late 23 = .ok (.iload_n 3, 1) := by decide +kernel
theorem dd_M_late_24 : decode bb_M_late 24 = .ok (.if_icmp .le 15, 3) := by decide +kernel
theorem dd_M_late_27 : decode bb_M_late 27 = .ok (.iconst 1, 1) := by decide +kernel
theorem dd_M_late_28 : decode bb_M_late 28 = .ok (.aload_n 0, 1) := by decide +kernel
theorem dd_M_late_29 : decode bb_M_late 29 = .ok (.getfield 44, 3) := by decide +kernel
theorem dd_M_late_32 : decode bb_M_late 32 = .ok (.iload 4, 2) := by decide +kernel
theorem dd_M_late_34 : decode bb_M_late 34 = .ok (.iaload, 1) := by decide +kernel
theorem dd_M_late_35 : decode bb_M_late 35 = .ok (.iadd, 1) := by decide +kernel
theorem dd_M_late_36 : decode bb_M_late 36 = .ok (.goto 4, 3) := by decide +kernel
theorem dd_M_late_39 : decode bb_M_late 39 = .ok (.iconst (-1), 1) := by decide +kernel
theorem dd_M_late_40 : decode bb_M_late 40 = .ok (.ireturn, 1) := by decide +kernel
theorem dd_M_overdue_0 : decode bb_M_overdue 0 = .ok (.aload_n 0, 1) := by decide +kernel
theorem dd_M_overdue_1 : decode bb_M_overdue 1 = .ok (.iload_n 1, 1) := by decide +kernel
theorem dd_M_overdue_2 : decode bb_M_overdue 2 = .ok (.invokestatic 98, 3) := by decide +kernel
theorem dd_M_overdue_5 : decode bb_M_overdue 5 = .ok (.ifCond .eq 22, 3) := by decide +kernel
theorem dd_M_overdue_8 : decode bb_M_overdue 8 = .ok (.iload_n 2, 1) := by decide +kernel
theorem dd_M_overdue_9 : decode bb_M_overdue 9 = .ok (.iconst 0, 1) := by decide +kernel
theorem dd_M_overdue_10 : decode bb_M_overdue 10 = .ok (.sipush 9999, 3) := by decide +kernel
theorem dd_M_overdue_13 : decode bb_M_overdue 13 = .ok (.invokestatic 72, 3) := by decide +kernel
theorem dd_M_overdue_16 : decode bb_M_overdue 16 = .ok (.ifCond .eq 11, 3) := by decide +kernel
theorem dd_M_overdue_19 : decode bb_M_overdue 19 = .ok (.iload_n 3, 1) := by decide +kernel
theorem dd_M_overdue_20 : decode bb_M_overdue 20 = .ok (.ifCond .lt 7, 3) := by decide +kernel
theorem dd_M_overdue_23 : decode bb_M_overdue 23 = .ok (.iconst 1, 1) := by decide +kernel
theorem dd_M_overdue_24 : decode bb_M_overdue 24 = .ok (.goto 4, 3) := by decide +kernel
theorem dd_M_overdue_27 : decode bb_M_overdue 27 = .ok (.iconst 0, 1) := by decide +kernel
theorem dd_M_overdue_28 : decode bb_M_overdue 28 = .ok (.iconst 1, 1) := by decide +kernel
theorem dd_M_overdue_29 : decode bb_M_overdue 29 = .ok (.iconst 1, 1) := by decide +kernel
theorem dd_M_overdue_30 : decode bb_M_overdue 30 = .ok (.iconst 1, 1) := by decide +kernel
theorem dd_M_overdue_31 : decode bb_M_overdue 31 = .ok (.invokevirtual 83, 3) := by decide +kernel
theorem dd_M_overdue_34 : decode bb_M_overdue 34 = .ok (.ifCond .ne 5, 3) := by decide +kernel
theorem dd_M_overdue_37 : decode bb_M_overdue 37 = .ok (.iconst 0, 1) := by decide +kernel
theorem dd_M_overdue_38 : decode bb_M_overdue 38 = .ok (.ireturn, 1) := by decide +kernel
theorem dd_M_overdue_39 : decode bb_M_overdue 39 = .ok (.iconst (-1), 1) := by decide +kernel
theorem dd_M_overdue_40 : decode bb_M_overdue 40 = .ok (.istore 4, 2) := by decide +kernel
theorem dd_M_overdue_42 : decode bb_M_overdue 42 = .ok (.iconst 0, 1) := by decide +kernel
theorem dd_M_overdue_43 : decode bb_M_overdue 43 = .ok (.istore 5, 2) := by decide +kernel
theorem dd_M_overdue_45 : decode bb_M_overdue 45 = .ok (.iload 5, 2) := by decide +kernel
theorem dd_M_overdue_47 : decode bb_M_overdue 47 = .ok (.iload_n 3, 1) := by decide +kernel
theorem dd_M_overdue_48 : decode bb_M_overdue 48 = .ok (.if_icmp .gt 131, 3) := by decide +kernel
theorem dd_M_overdue_51 : decode bb_M_overdue 51 = .ok (.iconst (-1), 1) := by decide +kernel
theorem dd_M_overdue_52 : decode bb_M_overdue 52 = .ok (.istore 6, 2) := by decide +kernel
theorem dd_M_overdue_54 : decode bb_M_overdue 54 = .ok (.iconst 0, 1) := by decide +kernel
theorem dd_M_overdue_55 : decode bb_M_overdue 55 = .ok (.istore 7, 2) := by decide +kernel
theorem dd_M_overdue_57 : decode bb_M_overdue 57 = .ok (.iload 7, 2) := by decide +kernel
theorem dd_M_overdue_59 : decode bb_M_overdue 59 = .ok (.aload_n 0, 1) := by decide +kernel
theorem dd_M_overdue_60 : decode bb_M_overdue 60 = .ok (.getfield 69, 3) := by decide +kernel
theorem dd_M_overdue_63 : decode bb_M_overdue 63 = .ok (.if_icmp .ge 99, 3) := by decide +kernel
theorem dd_M_overdue_66 : decode bb_M_overdue 66 = .ok (.aload_n 0, 1) := by decide +kernel
theorem dd_M_overdue_67 : decode bb_M_overdue 67 = .ok (.iload 7, 2) := by decide +kernel
theorem dd_M_overdue_69 : decode bb_M_overdue 69 = .ok (.iload_n 1, 1) := by decide +kernel
theorem dd_M_overdue_70 : decode bb_M_overdue 70 = .ok (.iload_n 2, 1) := by decide +kernel
theorem dd_M_overdue_71 : decode bb_M_overdue 71 = .ok (.invokevirtual 147, 3) := by decide +kernel
theorem dd_M_overdue_74 : decode bb_M_overdue 74 = .ok (.istore 8, 2) := by decide +kernel
theorem dd_M_overdue_76 : decode bb_M_overdue 76 = .ok (.iload 8, 2) := by decide +kernel
theorem dd_M_overdue_78 : decode bb_M_overdue 78 = .ok (.ifCond .ge 6, 3) := by decide +kernel
theorem dd_M_overdue_81 : decode bb_M_overdue 81 = .ok (.goto 75, 3) := by decide +kernel
theorem dd_M_overdue_84 : decode bb_M_overdue 84 = .ok (.iload 4, 2) := by decide +kernel
theorem dd_M_overdue_86 : decode bb_M_overdue 86 = .ok (.ifCond .lt 36, 3) := by decide +kernel
theorem dd_M_overdue_89 : decode bb_M_overdue 89 = .ok (.iload 8, 2) := by decide +kernel
theorem dd_M_overdue_91 : decode bb_M_overdue 91 = .ok (.aload_n 0, 1) := by decide +kernel
theorem dd_M_overdue_92 : decode bb_M_overdue 92 = .ok (.iload 4, 2) := by decide +kernel
theorem dd_M_overdue_94 : decode bb_M_overdue 94 = .ok (.iload_n 1, 1) := by decide +kernel
theorem dd_M_overdue_95 : decode bb_M_overdue 95 = .ok (.iload_n 2, 1) := by decide +kernel
theorem dd_M_overdue_96 : decode bb_M_overdue 96 = .ok (.invokevirtual 147, 3) := by decide +kernel
theorem dd_M_overdue_99 : decode bb_M_overdue 99 = .ok (.if_icmp .gt 23, 3) := by decide +kernel
theorem dd_M_overdue_102 : decode bb_M_overdue 102 = .ok (.iload 8, 2) := by decide +kernel
theorem dd_M_overdue_104 : decode bb_M_overdue 104 = .ok (.aload_n 0, 1) := by decide +kernel
theorem dd_M_overdue_105 : decode bb_M_overdue 105 = .ok (.iload 4, 2) := by decide +kernel
theorem dd_M_overdue_107 : decode bb_M_overdue 107 = .ok (.iload_n 1, 1) := by decide +kernel
theorem dd_M_overdue_108 : decode bb_M_overdue 108 = .ok (.iload_n 2, 1) := by decide +kernel
theorem dd_M_overdue_109 : decode bb_M_overdue 109 = .ok (.invokevirtual 147, 3) := by decide +kernel
theorem dd_M_overdue_112 : decode bb_M_overdue 112 = .ok (.if_icmp .ne 14, 3) := by decide +kernel
theorem dd_M_overdue_115 : decode bb_M_overdue 115 = .ok (.iload 7, 2) := by decide +kernel
theorem dd_M_overdue_117 : decode bb_M_overdue 117 = .ok (.iload 4, 2) := by decide +kernel
theorem dd_M_overdue_119 : decode bb_M_overdue 119 = .ok (.if_icmp .le 7, 3) := by decide +kernel
theorem dd_M_overdue_122 : decode bb_M_overdue 122 = .ok (.iconst 1, 1) := by decide +kernel
theorem dd_M_overdue_123 : decode bb_M_overdue 123 = .ok (.goto 4, 3) := by decide +kernel
theorem dd_M_overdue_126 : decode bb_M_overdue 126 = .ok (.iconst 0, 1) := by decide +kernel
theorem dd_M_overdue_127 : decode bb_M_overdue 127 = .ok (.istore 9, 2) := by decide +kernel
theorem dd_M_overdue_129 : decode bb_M_overdue 129 = .ok (.iload 9, 2) := by decide +kernel
theorem dd_M_overdue_131 : decode bb_M_overdue 131 = .ok (.ifCond .eq 25, 3) := by decide +kernel
theorem dd_M_overdue_134 : decode bb_M_overdue 134 = .ok (.iload 6, 2) := by decide +kernel
theorem dd_M_overdue_136 : decode bb_M_overdue 136 = .ok (.ifCond .lt 16, 3) := by decide +kernel
theorem dd_M_overdue_139 : decode bb_M_overdue 139 = .ok (.iload 8, 2) := by decide +kernel
theorem dd_M_overdue_141 : decode bb_M_overdue 141 = .ok (.aload_n 0, 1) := by decide +kernel
theorem dd_M_overdue_142 : decode bb_M_overdue 142 = .ok (.iload 6, 2) := by decide +kernel
theorem dd_M_overdue_144 : decode bb_M_overdue 144 = .ok (.iload_n 1, 1) := by decide +kernel
theorem dd_M_overdue_145 : decode bb_M_overdue 145 = .ok (.iload_n 2, 1) := by decide +kernel
theorem dd_M_overdue_146 : decode bb_M_overdue 146 = .ok (.invokevirtual 147, 3) := by decide +kernel
theorem dd_M_overdue_149 : decode bb_M_overdue 149 = .ok (.if_icmp .ge 7, 3) := by decide +kernel
theorem dd_M_overdue_152 : decode bb_M_overdue 152 = .ok (.iload 7, 2) := by decide +kernel
theorem dd_M_overdue_154 : decode bb_M_overdue 154 = .ok (.istore 6, 2) := by decide +kernel
theorem dd_M_overdue_156 : decode bb_M_overdue 156 = .ok (.iinc 7 1, 3) := by decide +kernel
theorem dd_M_overdue_159 : decode bb_M_overdue 159 = .ok (.goto (-102), 3) := by decide +kernel
theorem dd_M_overdue_162 : decode bb_M_overdue 162 = .ok (.iload 6, 2) := by decide +kernel
theorem dd_M_overdue_164 : decode bb_M_overdue 164 = .ok (.ifCond .ge 5, 3) := by decide +kernel
theorem dd_M_overdue_167 : decode bb_M_overdue 167 = .ok (.iconst (-1), 1) := by decide +kernel
theorem dd_M_overdue_168 : decode bb_M_overdue 168 = .ok (.ireturn, 1) := by decide +kernel
theorem dd_M_overdue_169 : decode bb_M_overdue 169 = .ok (.iload 6, 2) := by decide +kernel
theorem dd_M_overdue_171 : decode bb_M_overdue 171 = .ok (.istore 4, 2) := by decide +kernel
theorem dd_M_overdue_173 : decode bb_M_overdue 173 = .ok (.iinc 5 1, 3) := by decide +kernel
theorem dd_M_overdue_176 : decode bb_M_overdue 176 = .ok (.goto (-131), 3) := by decide +kernel
theorem dd_M_overdue_179 : decode bb_M_overdue 179 = .ok (.iload 4, 2) := by decide +kernel
theorem dd_M_overdue_181 : decode bb_M_overdue 181 = .ok (.ireturn, 1) := by decide +kernel
theorem dd_M_testAt_0 : decode bb_M_testAt 0 = .ok (.aload_n 0, 1) := by decide +kernel
theorem dd_M_testAt_1 : decode bb_M_testAt 1 = .ok (.iload_n 1, 1) := by decide +kernel
theorem dd_M_testAt_2 : decode bb_M_testAt 2 = .ok (.iconst 0, 1) := by decide +kernel
theorem dd_M_testAt_3 : decode bb_M_testAt 3 = .ok (.aload_n 0, 1) := by decide +kernel
theorem dd_M_testAt_4 : decode bb_M_testAt 4 = .ok (.getfield 104, 3) := by decide +kernel
theorem dd_M_testAt_7 : decode bb_M_testAt 7 = .ok (.iconst 1, 1) := by decide +kernel
theorem dd_M_testAt_8 : decode bb_M_testAt 8 = .ok (.isub, 1) := by decide +kernel
theorem dd_M_testAt_9 : decode bb_M_testAt 9 = .ok (.invokestatic 72, 3) := by decide +kernel
theorem dd_M_testAt_12 : decode bb_M_testAt 12 = .ok (.ifCond .eq 16, 3) := by decide +kernel
theorem dd_M_testAt_15 : decode bb_M_testAt 15 = .ok (.iload_n 2, 1) := by decide +kernel
theorem dd_M_testAt_16 : decode bb_M_testAt 16 = .ok (.iconst 0, 1) := by decide +kernel
theorem dd_M_testAt_17 : decode bb_M_testAt 17 = .ok (.iconst 4, 1) := by decide +kernel
theorem dd_M_testAt_18 : decode bb_M_testAt 18 = .ok (.invokestatic 72, 3) := by decide +kernel
theorem dd_M_testAt_21 : decode bb_M_testAt 21 = .ok (.ifCond .eq 7, 3) := by decide +kernel
theorem dd_M_testAt_24 : decode bb_M_testAt 24 = .ok (.iconst 1, 1) := by decide +kernel
theorem dd_M_testAt_25 : decode bb_M_testAt 25 = .ok (.goto 4, 3) := by decide +kernel
theorem dd_M_testAt_28 : decode bb_M_testAt 28 = .ok (.iconst 0, 1) := by decide +kernel
theorem dd_M_testAt_29 : decode bb_M_testAt 29 = .ok (.iconst 1, 1) := by decide +kernel
theorem dd_M_testAt_30 : decode bb_M_testAt 30 = .ok (.iconst 1, 1) := by decide +kernel
theorem dd_M_testAt_31 : decode bb_M_testAt 31 = .ok (.iconst 1, 1) := by decide +kernel
theorem dd_M_testAt_32 : decode bb_M_testAt 32 = .ok (.invokevirtual 83, 3) := by decide +kernel
theorem dd_M_testAt_35 : decode bb_M_testAt 35 = .ok (.ifCond .ne 5, 3) := by decide +kernel
theorem dd_M_testAt_38 : decode bb_M_testAt 38 = .ok (.iconst 0, 1) := by decide +kernel
theorem dd_M_testAt_39 : decode bb_M_testAt 39 = .ok (.ireturn, 1) := by decide +kernel
theorem dd_M_testAt_40 : decode bb_M_testAt 40 = .ok (.iload_n 2, 1) := by decide +kernel
theorem dd_M_testAt_41 : decode bb_M_testAt 41 = .ok (.ifCond .ne 12, 3) := by decide +kernel
theorem dd_M_testAt_44 : decode bb_M_testAt 44 = .ok (.aload_n 0, 1) := by decide +kernel
theorem dd_M_testAt_45 : decode bb_M_testAt 45 = .ok (.getfield 41, 3) := by decide +kernel
theorem dd_M_testAt_48 : decode bb_M_testAt 48 = .ok (.iload_n 1, 1) := by decide +kernel
theorem dd_M_testAt_49 : decode bb_M_testAt 49 = .ok (.iaload, 1) := by decide +kernel
theorem dd_M_testAt_50 : decode bb_M_testAt 50 = .ok (.goto 51, 3) := by decide +kernel
theorem dd_M_testAt_53 : decode bb_M_testAt 53 = .ok (.iload_n 2, 1) := by decide +kernel
theorem dd_M_testAt_54 : decode bb_M_testAt 54 = .ok (.iconst 1, 1) := by decide +kernel
theorem dd_M_testAt_55 : decode bb_M_testAt 55 = .ok (.if_icmp .ne 12, 3) := by decide +kernel
theorem dd_M_testAt_58 : decode bb_M_testAt 58 = .ok (.aload_n 0, 1) := by decide +kernel
theorem dd_M_testAt_59 : decode bb_M_testAt 59 = .ok (.getfield 44, 3) := by decide +kernel
theorem dd_M_testAt_62 : decode bb_M_testAt 62 = .ok (.iload_n 1, 1) := by decide +kernel
theorem dd_M_testAt_63 : decode bb_M_testAt 63 = .ok (.iaload, 1) := by decide +kernel
theorem dd_M_testAt_64 : decode bb_M_testAt 64 = .ok (.goto 37, 3) := by decide +kernel
theorem dd_M_testAt_67 : decode bb_M_testAt 67 = .ok (.iload_n 2, 1) := by decide +kernel
theorem dd_M_testAt_68 : decode bb_M_testAt 68 = .ok (.iconst 2, 1) := by decide +kernel
theorem dd_M_testAt_69 : decode bb_M_testAt 69 = .ok (.if_icmp .ne 12, 3) := by decide +kernel
theorem dd_M_testAt_72 : decode bb_M_testAt 72 = .ok (.aload_n 0, 1) := by decide +kernel
theorem dd_M_testAt_73 : decode bb_M_testAt 73 = .ok (.getfield 47, 3) := by decide +kernel
theorem dd_M_testAt_76 : decode bb_M_testAt 76 = .ok (.iload_n 1, 1) := by decide +kernel
theorem dd_M_testAt_77 : decode bb_M_testAt 77 = .ok (.iaload, 1) := by decide +kernel
theorem dd_M_testAt_78 : decode bb_M_testAt 78 = .ok (.goto 23, 3) := by decide +kernel
theorem dd_M_testAt_81 : decode bb_M_testAt 81 = .ok (.iload_n 2, 1) := by decide +kernel
theorem dd_M_testAt_82 : decode bb_M_testAt 82 = .ok (.iconst 3, 1) := by decide +kernel
theorem dd_M_testAt_83 : decode bb_M_testAt 83 = .ok (.if_icmp .ne 12, 3) := by decide +kernel
theorem dd_M_testAt_86 : decode bb_M_testAt 86 = .ok (.aload_n 0, 1) := by decide +kernel
theorem dd_M_testAt_87 : decode bb_M_testAt 87 = .ok (.getfield 50, 3) := by decide +kernel
theorem dd_M_testAt_90 : decode bb_M_testAt 90 = .ok (.iload_n 1, 1) := by decide +kernel
theorem dd_M_testAt_91 : decode bb_M_testAt 91 = .ok (.iaload, 1) := by decide +kernel
theorem dd_M_testAt_92 : decode bb_M_testAt 92 = .ok (.goto 9, 3) := by decide +kernel
theorem dd_M_testAt_95 : decode bb_M_testAt 95 = .ok (.aload_n 0, 1) := by decide +kernel
theorem dd_M_testAt_96 : decode bb_M_testAt 96 = .ok (.getfield 53, 3) := by decide +kernel
theorem dd_M_testAt_99 : decode bb_M_testAt 99 = .ok (.iload_n 1, 1) := by decide +kernel
theorem dd_M_testAt_100 : decode bb_M_testAt 100 = .ok (.iaload, 1) := by decide +kernel
theorem dd_M_testAt_101 : decode bb_M_testAt 101 = .ok (.ireturn, 1) := by decide +kernel
theorem dd_M_hydrantAt_0 : decode bb_M_hydrantAt 0 = .ok (.aload_n 0, 1) := by decide +kernel
theorem dd_M_hydrantAt_1 : decode bb_M_hydrantAt 1 = .ok (.aload_n 0, 1) := by decide +kernel
theorem dd_M_hydrantAt_2 : decode bb_M_hydrantAt 2 = .ok (.iload_n 1, 1) := by decide +kernel
theorem dd_M_hydrantAt_3 : decode bb_M_hydrantAt 3 = .ok (.invokevirtual 95, 3) := by decide +kernel
theorem dd_M_hydrantAt_6 : decode bb_M_hydrantAt 6 = .ok (.ifCond .eq 16, 3) := by decide +kernel
theorem dd_M_hydrantAt_9 : decode bb_M_hydrantAt 9 = .ok (.iload_n 2, 1) := by decide +kernel
theorem dd_M_hydrantAt_10 : decode bb_M_hydrantAt 10 = .ok (.iconst 0, 1) := by decide +kernel
theorem dd_M_hydrantAt_11 : decode bb_M_hydrantAt 11 = .ok (.iconst 5, 1) := by decide +kernel
theorem dd_M_hydrantAt_12 : decode bb_M_hydrantAt 12 = .ok (.invokestatic 72, 3) := by decide +kernel
theorem dd_M_hydrantAt_15 : decode bb_M_hydrantAt 15 = .ok (.ifCond .eq 7, 3) := by decide +kernel
theorem dd_M_hydrantAt_18 : decode bb_M_hydrantAt 18 = .ok (.iconst 1, 1) := by decide +kernel
theorem dd_M_hydrantAt_19 : decode bb_M_hydrantAt 19 = .ok (.goto 4, 3) := by decide +kernel
theorem dd_M_hydrantAt_22 : decode bb_M_hydrantAt 22 = .ok (.iconst 0, 1) := by decide +kernel
theorem dd_M_hydrantAt_23 : decode bb_M_hydrantAt 23 = .ok (.iconst 1, 1) := by decide +kernel
theorem dd_M_hydrantAt_24 : decode bb_M_hydrantAt 24 = .ok (.iconst 1, 1) := by decide +kernel
theorem dd_M_hydrantAt_25 : decode bb_M_hydrantAt 25 = .ok (.iconst 1, 1) := by decide +kernel
theorem dd_M_hydrantAt_26 : decode bb_M_hydrantAt 26 = .ok (.invokevirtual 83, 3) := by decide +kernel
theorem dd_M_hydrantAt_29 : decode bb_M_hydrantAt 29 = .ok (.ifCond .ne 5, 3) := by decide +kernel
theorem dd_M_hydrantAt_32 : decode bb_M_hydrantAt 32 = .ok (.iconst 0, 1) := by decide +kernel
theorem dd_M_hydrantAt_33 : decode bb_M_hydrantAt 33 = .ok (.ireturn, 1) := by decide +kernel
theorem dd_M_hydrantAt_34 : decode bb_M_hydrantAt 34 = .ok (.iconst 0, 1) := by decide +kernel
theorem dd_M_hydrantAt_35 : decode bb_M_hydrantAt 35 = .ok (.istore_n 3, 1) := by decide +kernel
theorem dd_M_hydrantAt_36 : decode bb_M_hydrantAt 36 = .ok (.iconst 0, 1) := by decide +kernel
theorem dd_M_hydrantAt_37 : decode bb_M_hydrantAt 37 = .ok (.istore 4, 2) := by decide +kernel
theorem dd_M_hydrantAt_39 : decode bb_M_hydrantAt 39 = .ok (.iload 4, 2) := by decide +kernel
theorem dd_M_hydrantAt_41 : decode bb_M_hydrantAt 41 = .ok (.aload_n 0, 1) := by decide +kernel
theorem dd_M_hydrantAt_42 : decode bb_M_hydrantAt 42 = .ok (.getfield 104, 3) := by decide +kernel
theorem dd_M_hydrantAt_45 : decode bb_M_hydrantAt 45 = .ok (.if_icmp .ge 23, 3) := by decide +kernel
theorem dd_M_hydrantAt_48 : decode bb_M_hydrantAt 48 = .ok (.aload_n 0, 1) := by decide +kernel
theorem dd_M_hydrantAt_49 : decode bb_M_hydrantAt 49 = .ok (.getfield 41, 3) := by decide +kernel
theorem dd_M_hydrantAt_52 : decode bb_M_hydrantAt 52 = .ok (.iload 4, 2) := by decide +kernel
theorem dd_M_hydrantAt_54 : decode bb_M_hydrantAt 54 = .ok (.iaload, 1) := by decide +kernel
theorem dd_M_hydrantAt_55 : decode bb_M_hydrantAt 55 = .ok (.iload_n 1, 1) := by decide +kernel
theorem dd_M_hydrantAt_56 : decode bb_M_hydrantAt 56 = .ok (.if_icmp .ne 6, 3) := by decide +kernel
theorem dd_M_hydrantAt_59 : decode bb_M_hydrantAt 59 = .ok (.iinc 3 1, 3) := by decide +kernel
theorem dd_M_hydrantAt_62 : decode bb_M_hydrantAt 62 = .ok (.iinc 4 1, 3) := by decide +kernel
theorem dd_M_hydrantAt_65 : decode bb_M_hydrantAt 65 = .ok (.goto (-26), 3) := by decide +kernel
theorem dd_M_hydrantAt_68 : decode bb_M_hydrantAt 68 = .ok (.iload_n 2, 1) := by decide +kernel
theorem dd_M_hydrantAt_69 : decode bb_M_hydrantAt 69 = .ok (.ifCond .ne 12, 3) := by decide +kernel
theorem dd_M_hydrantAt_72 : decode bb_M_hydrantAt 72 = .ok (.aload_n 0, 1) := by decide +kernel
theorem dd_M_hydrantAt_73 : decode bb_M_hydrantAt 73 = .ok (.getfield 16, 3) := by decide +kernel
theorem dd_M_hydrantAt_76 : decode bb_M_hydrantAt 76 = .ok (.iload_n 1, 1) := by decide +kernel
theorem dd_M_hydrantAt_77 : decode bb_M_hydrantAt 77 = .ok (.iaload, 1) := by decide +kernel
theorem dd_M_hydrantAt_78 : decode bb_M_hydrantAt 78 = .ok (.goto 59, 3) := by decide +kernel
theorem dd_M_hydrantAt_81 : decode bb_M_hydrantAt 81 = .ok (.iload_n 2, 1) := by decide +kernel
theorem dd_M_hydrantAt_82 : decode bb_M_hydrantAt 82 = .ok (.iconst 1, 1) := by decide +kernel
theorem dd_M_hydrantAt_83 : decode bb_M_hydrantAt 83 = .ok (.if_icmp .ne 12, 3) := by decide +kernel
theorem dd_M_hydrantAt_86 : decode bb_M_hydrantAt 86 = .ok (.aload_n 0, 1) := by decide +kernel
theorem dd_M_hydrantAt_87 : decode bb_M_hydrantAt 87 = .ok (.getfield 19, 3) := by decide +kernel
theorem dd_M_hydrantAt_90 : decode bb_M_hydrantAt 90 = .ok (.iload_n 1, 1) := by decide +kernel
theorem dd_M_hydrantAt_91 : decode bb_M_hydrantAt 91 = .ok (.iaload, 1) := by decide +kernel
theorem dd_M_hydrantAt_92 : decode bb_M_hydrantAt 92 = .ok (.goto 45, 3) := by decide +kernel
theorem dd_M_hydrantAt_95 : decode bb_M_hydrantAt 95 = .ok (.iload_n 2, 1) := by decide +kernel
theorem dd_M_hydrantAt_96 : decode bb_M_hydrantAt 96 = .ok (.iconst 2, 1) := by decide +kernel
theorem dd_M_hydrantAt_97 : decode bb_M_hydrantAt 97 = .ok (.if_icmp .ne 12, 3) := by decide +kernel
theorem dd_M_hydrantAt_100 : decode bb_M_hydrantAt 100 = .ok (.aload_n 0, 1) := by decide +kernel
theorem dd_M_hydrantAt_101 : decode bb_M_hydrantAt 101 = .ok (.getfield 22, 3) := by decide +kernel
theorem dd_M_hydrantAt_104 : decode bb_M_hydrantAt 104 = .ok (.iload_n 1, 1) := by decide +kernel
theorem dd_M_hydrantAt_105 : decode bb_M_hydrantAt 105 = .ok (.iaload, 1) := by decide +kernel
theorem dd_M_hydrantAt_106 : decode bb_M_hydrantAt 106 = .ok (.goto 31, 3) := by decide +kernel
theorem dd_M_hydrantAt_109 : decode bb_M_hydrantAt 109 = .ok (.iload_n 2, 1) := by decide +kernel
theorem dd_M_hydrantAt_110 : decode bb_M_hydrantAt 110 = .ok (.iconst 3, 1) := by decide +kernel
theorem dd_M_hydrantAt_111 : decode bb_M_hydrantAt 111 = .ok (.if_icmp .ne 11, 3) := by decide +kernel
theorem dd_M_hydrantAt_114 : decode bb_M_hydrantAt 114 = .ok (.aload_n 0, 1) := by decide +kernel
theorem dd_M_hydrantAt_115 : decode bb_M_hydrantAt 115 = .ok (.iload_n 1, 1) := by decide +kernel
theorem dd_M_hydrantAt_116 : decode bb_M_hydrantAt 116 = .ok (.invokevirtual 107, 3) := by decide +kernel
theorem dd_M_hydrantAt_119 : decode bb_M_hydrantAt 119 = .ok (.goto 18, 3) := by decide +kernel
theorem dd_M_hydrantAt_122 : decode bb_M_hydrantAt 122 = .ok (.iload_n 2, 1) := by decide +kernel
theorem dd_M_hydrantAt_123 : decode bb_M_hydrantAt 123 = .ok (.iconst 4, 1) := by decide +kernel
theorem dd_M_hydrantAt_124 : decode bb_M_hydrantAt 124 = .ok (.if_icmp .ne 7, 3) := by decide +kernel
theorem dd_M_hydrantAt_127 : decode bb_M_hydrantAt 127 = .ok (.iload_n 3, 1) := by decide +kernel
theorem dd_M_hydrantAt_128 : decode bb_M_hydrantAt 128 = .ok (.goto 9, 3) := by decide +kernel
theorem dd_M_hydrantAt_131 : decode bb_M_hydrantAt 131 = .ok (.aload_n 0, 1) := by decide +kernel
theorem dd_M_hydrantAt_132 : decode bb_M_hydrantAt 132 = .ok (.getfield 25, 3) := by decide +kernel
theorem dd_M_hydrantAt_135 : decode bb_M_hydrantAt 135 = .ok (.iload_n 1, 1) := by decide +kernel
theorem dd_M_hydrantAt_136 : decode bb_M_hydrantAt 136 = .ok (.iaload, 1) := by decide +kernel
theorem dd_M_hydrantAt_137 : decode bb_M_hydrantAt 137 = .ok (.ireturn, 1) := by decide +kernel
theorem dd_L_hydrant_0 : decode bb_L_hydrant 0 = .ok (.aload 5, 2) := by decide +kernel
theorem dd_L_hydrant_2 : decode bb_L_hydrant 2 = .ok (.iconst 0, 1) := by decide +kernel
theorem dd_L_hydrant_3 : decode bb_L_hydrant 3 = .ok (.aload_n 0, 1) := by decide +kernel
theorem dd_L_hydrant_4 : decode bb_L_hydrant 4 = .ok (.iload_n 1, 1) := by decide +kernel
theorem dd_L_hydrant_5 : decode bb_L_hydrant 5 = .ok (.iload_n 2, 1) := by decide +kernel
theorem dd_L_hydrant_6 : decode bb_L_hydrant 6 = .ok (.iload_n 3, 1) := by decide +kernel
theorem dd_L_hydrant_7 : decode bb_L_hydrant 7 = .ok (.iload 4, 2) := by decide +kernel
theorem dd_L_hydrant_9 : decode bb_L_hydrant 9 = .ok (.invokevirtual 7, 3) := by decide +kernel
theorem dd_L_hydrant_12 : decode bb_L_hydrant 12 = .ok (.i2l, 1) := by decide +kernel
theorem dd_L_hydrant_13 : decode bb_L_hydrant 13 = .ok (.lastore, 1) := by decide +kernel
theorem dd_L_hydrant_14 : decode bb_L_hydrant 14 = .ok (.goto 15, 3) := by decide +kernel
theorem dd_L_hydrant_17 : decode bb_L_hydrant 17 = .ok (.astore 6, 2) := by decide +kernel
theorem dd_L_hydrant_19 : decode bb_L_hydrant 19 = .ok (.iconst 1, 1) := by decide +kernel
theorem dd_L_hydrant_20 : decode bb_L_hydrant 20 = .ok (.ireturn, 1) := by decide +kernel
theorem dd_L_hydrant_21 : decode bb_L_hydrant 21 = .ok (.astore 6, 2) := by decide +kernel
theorem dd_L_hydrant_23 : decode bb_L_hydrant 23 = .ok (.iconst 2, 1) := by decide +kernel
theorem dd_L_hydrant_24 : decode bb_L_hydrant 24 = .ok (.ireturn, 1) := by decide +kernel
theorem dd_L_hydrant_25 : decode bb_L_hydrant 25 = .ok (.astore 6, 2) := by decide +kernel
theorem dd_L_hydrant_27 : decode bb_L_hydrant 27 = .ok (.iconst 3, 1) := by decide +kernel
theorem dd_L_hydrant_28 : decode bb_L_hydrant 28 = .ok (.ireturn, 1) := by decide +kernel
theorem dd_L_hydrant_29 : decode bb_L_hydrant 29 = .ok (.iconst 0, 1) := by decide +kernel
theorem dd_L_hydrant_30 : decode bb_L_hydrant 30 = .ok (.ireturn, 1) := by decide +kernel
theorem dd_L_limit_0 : decode bb_L_limit 0 = .ok (.aload_n 0, 1) := by decide +kernel
theorem dd_L_limit_1 : decode bb_L_limit 1 = .ok (.iload_n 1, 1) := by decide +kernel
theorem dd_L_limit_2 : decode bb_L_limit 2 = .ok (.iload_n 2, 1) := by decide +kernel
theorem dd_L_limit_3 : decode bb_L_limit 3 = .ok (.invokevirtual 19, 3) := by decide +kernel
theorem dd_L_limit_6 : decode bb_L_limit 6 = .ok (.goto 9, 3) := by decide +kernel
theorem dd_L_limit_9 : decode bb_L_limit 9 = .ok (.astore_n 3, 1) := by decide +kernel
theorem dd_L_limit_10 : decode bb_L_limit 10 = .ok (.iconst 1, 1) := by decide +kernel
theorem dd_L_limit_11 : decode bb_L_limit 11 = .ok (.ireturn, 1) := by decide +kernel
theorem dd_L_limit_12 : decode bb_L_limit 12 = .ok (.astore_n 3, 1) := by decide +kernel
theorem dd_L_limit_13 : decode bb_L_limit 13 = .ok (.iconst 2, 1) := by decide +kernel
theorem dd_L_limit_14 : decode bb_L_limit 14 = .ok (.ireturn, 1) := by decide +kernel
theorem dd_L_limit_15 : decode bb_L_limit 15 = .ok (.iconst 0, 1) := by decide +kernel
theorem dd_L_limit_16 : decode bb_L_limit 16 = .ok (.ireturn, 1) := by decide +kernel
theorem dd_L_test_0 : decode bb_L_test 0 = .ok (.aload 6, 2) := by decide +kernel
theorem dd_L_test_2 : decode bb_L_test 2 = .ok (.iconst 0, 1) := by decide +kernel
theorem dd_L_test_3 : decode bb_L_test 3 = .ok (.aload_n 0, 1) := by decide +kernel
theorem dd_L_test_4 : decode bb_L_test 4 = .ok (.iload_n 1, 1) := by decide +kernel
theorem dd_L_test_5 : decode bb_L_test 5 = .ok (.iload_n 2, 1) := by decide +kernel
theorem dd_L_test_6 : decode bb_L_test 6 = .ok (.iload_n 3, 1) := by decide +kernel
theorem dd_L_test_7 : decode bb_L_test 7 = .ok (.iload 4, 2) := by decide +kernel
theorem dd_L_test_9 : decode bb_L_test 9 = .ok (.iload 5, 2) := by decide +kernel
theorem dd_L_test_11 : decode bb_L_test 11 = .ok (.invokevirtual 23, 3) := by decide +kernel
theorem dd_L_test_14 : decode bb_L_test 14 = .ok (.i2l, 1) := by decide +kernel
theorem dd_L_test_15 : decode bb_L_test 15 = .ok (.lastore, 1) := by decide +kernel
theorem dd_L_test_16 : decode bb_L_test 16 = .ok (.goto 19, 3) := by decide +kernel
theorem dd_L_test_19 : decode bb_L_test 19 = .ok (.astore 7, 2) := by decide +kernel
theorem dd_L_test_21 : decode bb_L_test 21 = .ok (.iconst 1, 1) := by decide +kernel
theorem dd_L_test_22 : decode bb_L_test 22 = .ok (.ireturn, 1) := by decide +kernel
theorem dd_L_test_23 : decode bb_L_test 23 = .ok (.astore 7, 2) := by decide +kernel
theorem dd_L_test_25 : decode bb_L_test 25 = .ok (.iconst 2, 1) := by decide +kernel
theorem dd_L_test_26 : decode bb_L_test 26 = .ok (.ireturn, 1) := by decide +kernel
theorem dd_L_test_27 : decode bb_L_test 27 = .ok (.astore 7, 2) := by decide +kernel
theorem dd_L_test_29 : decode bb_L_test 29 = .ok (.iconst 3, 1) := by decide +kernel
theorem dd_L_test_30 : decode bb_L_test 30 = .ok (.ireturn, 1) := by decide +kernel
theorem dd_L_test_31 : decode bb_L_test 31 = .ok (.astore 7, 2) := by decide +kernel
theorem dd_L_test_33 : decode bb_L_test 33 = .ok (.iconst 4, 1) := by decide +kernel
theorem dd_L_test_34 : decode bb_L_test 34 = .ok (.ireturn, 1) := by decide +kernel
theorem dd_L_test_35 : decode bb_L_test 35 = .ok (.iconst 0, 1) := by decide +kernel
theorem dd_L_test_36 : decode bb_L_test 36 = .ok (.ireturn, 1) := by decide +kernel
theorem dd_L_flow_0 : decode bb_L_flow 0 = .ok (.aload 4, 2) := by decide +kernel
theorem dd_L_flow_2 : decode bb_L_flow 2 = .ok (.iconst 0, 1) := by decide +kernel
theorem dd_L_flow_3 : decode bb_L_flow 3 = .ok (.aload_n 0, 1) := by decide +kernel
theorem dd_L_flow_4 : decode bb_L_flow 4 = .ok (.iload_n 1, 1) := by decide +kernel
theorem dd_L_flow_5 : decode bb_L_flow 5 = .ok (.iload_n 2, 1) := by decide +kernel
theorem dd_L_flow_6 : decode bb_L_flow 6 = .ok (.iload_n 3, 1) := by decide +kernel
theorem dd_L_flow_7 : decode bb_L_flow 7 = .ok (.invokevirtual 29, 3) := by decide +kernel
theorem dd_L_flow_10 : decode bb_L_flow 10 = .ok (.i2l, 1) := by decide +kernel
theorem dd_L_flow_11 : decode bb_L_flow 11 = .ok (.lastore, 1) := by decide +kernel
theorem dd_L_flow_12 : decode bb_L_flow 12 = .ok (.goto 19, 3) := by decide +kernel
theorem dd_L_flow_15 : decode bb_L_flow 15 = .ok (.astore 5, 2) := by decide +kernel
theorem dd_L_flow_17 : decode bb_L_flow 17 = .ok (.iconst 1, 1) := by decide +kernel
theorem dd_L_flow_18 : decode bb_L_flow 18 = .ok (.ireturn, 1) := by decide +kernel
theorem dd_L_flow_19 : decode bb_L_flow 19 = .ok (.astore 5, 2) := by decide +kernel
theorem dd_L_flow_21 : decode bb_L_flow 21 = .ok (.iconst 2, 1) := by decide +kernel
theorem dd_L_flow_22 : decode bb_L_flow 22 = .ok (.ireturn, 1) := by decide +kernel
theorem dd_L_flow_23 : decode bb_L_flow 23 = .ok (.astore 5, 2) := by decide +kernel
theorem dd_L_flow_25 : decode bb_L_flow 25 = .ok (.iconst 3, 1) := by decide +kernel
theorem dd_L_flow_26 : decode bb_L_flow 26 = .ok (.ireturn, 1) := by decide +kernel
theorem dd_L_flow_27 : decode bb_L_flow 27 = .ok (.astore 5, 2) := by decide +kernel
theorem dd_L_flow_29 : decode bb_L_flow 29 = .ok (.iconst 4, 1) := by decide +kernel
theorem dd_L_flow_30 : decode bb_L_flow 30 = .ok (.ireturn, 1) := by decide +kernel
theorem dd_L_flow_31 : decode bb_L_flow 31 = .ok (.iconst 0, 1) := by decide +kernel
theorem dd_L_flow_32 : decode bb_L_flow 32 = .ok (.ireturn, 1) := by decide +kernel
theorem dd_L_sort_0 : decode bb_L_sort 0 = .ok (.aload_n 2, 1) := by decide +kernel
theorem dd_L_sort_1 : decode bb_L_sort 1 = .ok (.iconst 0, 1) := by decide +kernel
theorem dd_L_sort_2 : decode bb_L_sort 2 = .ok (.aload_n 0, 1) := by decide +kernel
theorem dd_L_sort_3 : decode bb_L_sort 3 = .ok (.iload_n 1, 1) := by decide +kernel
theorem dd_L_sort_4 : decode bb_L_sort 4 = .ok (.invokevirtual 35, 3) := by decide +kernel
theorem dd_L_sort_7 : decode bb_L_sort 7 = .ok (.i2l, 1) := by decide +kernel
theorem dd_L_sort_8 : decode bb_L_sort 8 = .ok (.lastore, 1) := by decide +kernel
theorem dd_L_sort_9 : decode bb_L_sort 9 = .ok (.goto 12, 3) := by decide +kernel
theorem dd_L_sort_12 : decode bb_L_sort 12 = .ok (.astore_n 3, 1) := by decide +kernel
theorem dd_L_sort_13 : decode bb_L_sort 13 = .ok (.iconst 1, 1) := by decide +kernel
theorem dd_L_sort_14 : decode bb_L_sort 14 = .ok (.ireturn, 1) := by decide +kernel
theorem dd_L_sort_15 : decode bb_L_sort 15 = .ok (.astore_n 3, 1) := by decide +kernel
theorem dd_L_sort_16 : decode bb_L_sort 16 = .ok (.iconst 2, 1) := by decide +kernel
theorem dd_L_sort_17 : decode bb_L_sort 17 = .ok (.ireturn, 1) := by decide +kernel
theorem dd_L_sort_18 : decode bb_L_sort 18 = .ok (.astore_n 3, 1) := by decide +kernel
theorem dd_L_sort_19 : decode bb_L_sort 19 = .ok (.iconst 3, 1) := by decide +kernel
theorem dd_L_sort_20 : decode bb_L_sort 20 = .ok (.ireturn, 1) := by decide +kernel
theorem dd_L_sort_21 : decode bb_L_sort 21 = .ok (.iconst 0, 1) := by decide +kernel
theorem dd_L_sort_22 : decode bb_L_sort 22 = .ok (.ireturn, 1) := by decide +kernel
theorem dd_L_defect_0 : decode bb_L_defect 0 = .ok (.aload_n 0, 1) := by decide +kernel
theorem dd_L_defect_1 : decode bb_L_defect 1 = .ok (.iload_n 1, 1) := by decide +kernel
theorem dd_L_defect_2 : decode bb_L_defect 2 = .ok (.iload_n 2, 1) := by decide +kernel
theorem dd_L_defect_3 : decode bb_L_defect 3 = .ok (.invokevirtual 39, 3) := by decide +kernel
theorem dd_L_defect_6 : decode bb_L_defect 6 = .ok (.goto 9, 3) := by decide +kernel
theorem dd_L_defect_9 : decode bb_L_defect 9 = .ok (.astore_n 3, 1) := by decide +kernel
theorem dd_L_defect_10 : decode bb_L_defect 10 = .ok (.iconst 1, 1) := by decide +kernel
theorem dd_L_defect_11 : decode bb_L_defect 11 = .ok (.ireturn, 1) := by decide +kernel
theorem dd_L_defect_12 : decode bb_L_defect 12 = .ok (.astore_n 3, 1) := by decide +kernel
theorem dd_L_defect_13 : decode bb_L_defect 13 = .ok (.iconst 2, 1) := by decide +kernel
theorem dd_L_defect_14 : decode bb_L_defect 14 = .ok (.ireturn, 1) := by decide +kernel
theorem dd_L_defect_15 : decode bb_L_defect 15 = .ok (.iconst 0, 1) := by decide +kernel
theorem dd_L_defect_16 : decode bb_L_defect 16 = .ok (.ireturn, 1) := by decide +kernel
theorem dd_L_works_0 : decode bb_L_works 0 = .ok (.aload_n 0, 1) := by decide +kernel
theorem dd_L_works_1 : decode bb_L_works 1 = .ok (.iload_n 1, 1) := by decide +kernel
theorem dd_L_works_2 : decode bb_L_works 2 = .ok (.iload_n 2, 1) := by decide +kernel
theorem dd_L_works_3 : decode bb_L_works 3 = .ok (.iload_n 3, 1) := by decide +kernel
theorem dd_L_works_4 : decode bb_L_works 4 = .ok (.invokevirtual 42, 3) := by decide +kernel
theorem dd_L_works_7 : decode bb_L_works 7 = .ok (.goto 19, 3) := by decide +kernel
theorem dd_L_works_10 : decode bb_L_works 10 = .ok (.astore 4, 2) := by decide +kernel
theorem dd_L_works_12 : decode bb_L_works 12 = .ok (.iconst 1, 1) := by decide +kernel
theorem dd_L_works_13 : decode bb_L_works 13 = .ok (.ireturn, 1) := by decide +kernel
theorem dd_L_works_14 : decode bb_L_works 14 = .ok (.astore 4, 2) := by decide +kernel
theorem dd_L_works_16 : decode bb_L_works 16 = .ok (.iconst 2, 1) := by decide +kernel
theorem dd_L_works_17 : decode bb_L_works 17 = .ok (.ireturn, 1) := by decide +kernel
theorem dd_L_works_18 : decode bb_L_works 18 = .ok (.astore 4, 2) := by decide +kernel
theorem dd_L_works_20 : decode bb_L_works 20 = .ok (.iconst 3, 1) := by decide +kernel
theorem dd_L_works_21 : decode bb_L_works 21 = .ok (.ireturn, 1) := by decide +kernel
theorem dd_L_works_22 : decode bb_L_works 22 = .ok (.astore 4, 2) := by decide +kernel
theorem dd_L_works_24 : decode bb_L_works 24 = .ok (.iconst 4, 1) := by decide +kernel
theorem dd_L_works_25 : decode bb_L_works 25 = .ok (.ireturn, 1) := by decide +kernel
theorem dd_L_works_26 : decode bb_L_works 26 = .ok (.iconst 0, 1) := by decide +kernel
theorem dd_L_works_27 : decode bb_L_works 27 = .ok (.ireturn, 1) := by decide +kernel
theorem dd_L_season_0 : decode bb_L_season 0 = .ok (.aload_n 0, 1) := by decide +kernel
theorem dd_L_season_1 : decode bb_L_season 1 = .ok (.iload_n 1, 1) := by decide +kernel
theorem dd_L_season_2 : decode bb_L_season 2 = .ok (.iload_n 2, 1) := by decide +kernel
theorem dd_L_season_3 : decode bb_L_season 3 = .ok (.iload_n 3, 1) := by decide +kernel
theorem dd_L_season_4 : decode bb_L_season 4 = .ok (.invokevirtual 46, 3) := by decide +kernel
theorem dd_L_season_7 : decode bb_L_season 7 = .ok (.goto 15, 3) := by decide +kernel
theorem dd_L_season_10 : decode bb_L_season 10 = .ok (.astore 4, 2) := by decide +kernel
theorem dd_L_season_12 : decode bb_L_season 12 = .ok (.iconst 1, 1) := by decide +kernel
theorem dd_L_season_13 : decode bb_L_season 13 = .ok (.ireturn, 1) := by decide +kernel
theorem dd_L_season_14 : decode bb_L_season 14 = .ok (.astore 4, 2) := by decide +kernel
theorem dd_L_season_16 : decode bb_L_season 16 = .ok (.iconst 2, 1) := by decide +kernel
theorem dd_L_season_17 : decode bb_L_season 17 = .ok (.ireturn, 1) := by decide +kernel
theorem dd_L_season_18 : decode bb_L_season 18 = .ok (.astore 4, 2) := by decide +kernel
theorem dd_L_season_20 : decode bb_L_season 20 = .ok (.iconst 3, 1) := by decide +kernel
theorem dd_L_season_21 : decode bb_L_season 21 = .ok (.ireturn, 1) := by decide +kernel
theorem dd_L_season_22 : decode bb_L_season 22 = .ok (.iconst 0, 1) := by decide +kernel
theorem dd_L_season_23 : decode bb_L_season 23 = .ok (.ireturn, 1) := by decide +kernel
theorem dd_L_usable_0 : decode bb_L_usable 0 = .ok (.aload_n 3, 1) := by decide +kernel
theorem dd_L_usable_1 : decode bb_L_usable 1 = .ok (.iconst 0, 1) := by decide +kernel
theorem dd_L_usable_2 : decode bb_L_usable 2 = .ok (.aload_n 0, 1) := by decide +kernel
theorem dd_L_usable_3 : decode bb_L_usable 3 = .ok (.iload_n 1, 1) := by decide +kernel
theorem dd_L_usable_4 : decode bb_L_usable 4 = .ok (.iload_n 2, 1) := by decide +kernel
theorem dd_L_usable_5 : decode bb_L_usable 5 = .ok (.invokevirtual 50, 3) := by decide +kernel
theorem dd_L_usable_8 : decode bb_L_usable 8 = .ok (.ifCond .eq 7, 3) := by decide +kernel
theorem dd_L_usable_11 : decode bb_L_usable 11 = .ok (.lconst 1, 1) := by decide +kernel
theorem dd_L_usable_12 : decode bb_L_usable 12 = .ok (.goto 4, 3) := by decide +kernel
theorem dd_L_usable_15 : decode bb_L_usable 15 = .ok (.lconst 0, 1) := by decide +kernel
theorem dd_L_usable_16 : decode bb_L_usable 16 = .ok (.lastore, 1) := by decide +kernel
theorem dd_L_usable_17 : decode bb_L_usable 17 = .ok (.goto 11, 3) := by decide +kernel
theorem dd_L_usable_20 : decode bb_L_usable 20 = .ok (.astore 4, 2) := by decide +kernel
theorem dd_L_usable_22 : decode bb_L_usable 22 = .ok (.iconst 1, 1) := by decide +kernel
theorem dd_L_usable_23 : decode bb_L_usable 23 = .ok (.ireturn, 1) := by decide +kernel
theorem dd_L_usable_24 : decode bb_L_usable 24 = .ok (.astore 4, 2) := by decide +kernel
theorem dd_L_usable_26 : decode bb_L_usable 26 = .ok (.iconst 2, 1) := by decide +kernel
theorem dd_L_usable_27 : decode bb_L_usable 27 = .ok (.ireturn, 1) := by decide +kernel
theorem dd_L_usable_28 : decode bb_L_usable 28 = .ok (.iconst 0, 1) := by decide +kernel
theorem dd_L_usable_29 : decode bb_L_usable 29 = .ok (.ireturn, 1) := by decide +kernel
theorem dd_L_near_0 : decode bb_L_near 0 = .ok (.aload 5, 2) := by decide +kernel
theorem dd_L_near_2 : decode bb_L_near 2 = .ok (.iconst 0, 1) := by decide +kernel
theorem dd_L_near_3 : decode bb_L_near 3 = .ok (.aload_n 0, 1) := by decide +kernel
theorem dd_L_near_4 : decode bb_L_near 4 = .ok (.iload_n 1, 1) := by decide +kernel
theorem dd_L_near_5 : decode bb_L_near 5 = .ok (.iload_n 2, 1) := by decide +kernel
theorem dd_L_near_6 : decode bb_L_near 6 = .ok (.iload_n 3, 1) := by decide +kernel
theorem dd_L_near_7 : decode bb_L_near 7 = .ok (.iload 4, 2) := by decide +kernel
theorem dd_L_near_9 : decode bb_L_near 9 = .ok (.invokevirtual 54, 3) := by decide +kernel
theorem dd_L_near_12 : decode bb_L_near 12 = .ok (.i2l, 1) := by decide +kernel
theorem dd_L_near_13 : decode bb_L_near 13 = .ok (.lastore, 1) := by decide +kernel
theorem dd_L_near_14 : decode bb_L_near 14 = .ok (.goto 7, 3) := by decide +kernel
theorem dd_L_near_17 : decode bb_L_near 17 = .ok (.astore 6, 2) := by decide +kernel
theorem dd_L_near_19 : decode bb_L_near 19 = .ok (.iconst 1, 1) := by decide +kernel
theorem dd_L_near_20 : decode bb_L_near 20 = .ok (.ireturn, 1) := by decide +kernel
theorem dd_L_near_21 : decode bb_L_near 21 = .ok (.iconst 0, 1) := by decide +kernel
theorem dd_L_near_22 : decode bb_L_near 22 = .ok (.ireturn, 1) := by decide +kernel
theorem dd_L_both_0 : decode bb_L_both 0 = .ok (.aload 4, 2) := by decide +kernel
theorem dd_L_both_2 : decode bb_L_both 2 = .ok (.iconst 0, 1) := by decide +kernel
theorem dd_L_both_3 : decode bb_L_both 3 = .ok (.aload_n 0, 1) := by decide +kernel
theorem dd_L_both_4 : decode bb_L_both 4 = .ok (.iload_n 1, 1) := by decide +kernel
theorem dd_L_both_5 : decode bb_L_both 5 = .ok (.iload_n 2, 1) := by decide +kernel
theorem dd_L_both_6 : decode bb_L_both 6 = .ok (.iload_n 3, 1) := by decide +kernel
theorem dd_L_both_7 : decode bb_L_both 7 = .ok (.invokevirtual 57, 3) := by decide +kernel
theorem dd_L_both_10 : decode bb_L_both 10 = .ok (.i2l, 1) := by decide +kernel
theorem dd_L_both_11 : decode bb_L_both 11 = .ok (.lastore, 1) := by decide +kernel
theorem dd_L_both_12 : decode bb_L_both 12 = .ok (.goto 19, 3) := by decide +kernel
theorem dd_L_both_15 : decode bb_L_both 15 = .ok (.astore 5, 2) := by decide +kernel
theorem dd_L_both_17 : decode bb_L_both 17 = .ok (.iconst 1, 1) := by decide +kernel
theorem dd_L_both_18 : decode bb_L_both 18 = .ok (.ireturn, 1) := by decide +kernel
theorem dd_L_both_19 : decode bb_L_both 19 = .ok (.astore 5, 2) := by decide +kernel
theorem dd_L_both_21 : decode bb_L_both 21 = .ok (.iconst 2, 1) := by decide +kernel
theorem dd_L_both_22 : decode bb_L_both 22 = .ok (.ireturn, 1) := by decide +kernel
theorem dd_L_both_23 : decode bb_L_both 23 = .ok (.astore 5, 2) := by decide +kernel
theorem dd_L_both_25 : decode bb_L_both 25 = .ok (.iconst 3, 1) := by decide +kernel
theorem dd_L_both_26 : decode bb_L_both 26 = .ok (.ireturn, 1) := by decide +kernel
theorem dd_L_both_27 : decode bb_L_both 27 = .ok (.astore 5, 2) := by decide +kernel
theorem dd_L_both_29 : decode bb_L_both 29 = .ok (.iconst 4, 1) := by decide +kernel
theorem dd_L_both_30 : decode bb_L_both 30 = .ok (.ireturn, 1) := by decide +kernel
theorem dd_L_both_31 : decode bb_L_both 31 = .ok (.iconst 0, 1) := by decide +kernel
theorem dd_L_both_32 : decode bb_L_both 32 = .ok (.ireturn, 1) := by decide +kernel
theorem dd_L_supply_0 : decode bb_L_supply 0 = .ok (.aload 6, 2) := by decide +kernel
theorem dd_L_supply_2 : decode bb_L_supply 2 = .ok (.iconst 0, 1) := by decide +kernel
theorem dd_L_supply_3 : decode bb_L_supply 3 = .ok (.aload_n 0, 1) := by decide +kernel
theorem dd_L_supply_4 : decode bb_L_supply 4 = .ok (.iload_n 1, 1) := by decide +kernel
theorem dd_L_supply_5 : decode bb_L_supply 5 = .ok (.iload_n 2, 1) := by decide +kernel
theorem dd_L_supply_6 : decode bb_L_supply 6 = .ok (.iload_n 3, 1) := by decide +kernel
theorem dd_L_supply_7 : decode bb_L_supply 7 = .ok (.iload 4, 2) := by decide +kernel
theorem dd_L_supply_9 : decode bb_L_supply 9 = .ok (.iload 5, 2) := by decide +kernel
theorem dd_L_supply_11 : decode bb_L_supply 11 = .ok (.invokevirtual 60, 3) := by decide +kernel
theorem dd_L_supply_14 : decode bb_L_supply 14 = .ok (.i2l, 1) := by decide +kernel
theorem dd_L_supply_15 : decode bb_L_supply 15 = .ok (.lastore, 1) := by decide +kernel
theorem dd_L_supply_16 : decode bb_L_supply 16 = .ok (.goto 7, 3) := by decide +kernel
theorem dd_L_supply_19 : decode bb_L_supply 19 = .ok (.astore 7, 2) := by decide +kernel
theorem dd_L_supply_21 : decode bb_L_supply 21 = .ok (.iconst 1, 1) := by decide +kernel
theorem dd_L_supply_22 : decode bb_L_supply 22 = .ok (.ireturn, 1) := by decide +kernel
theorem dd_L_supply_23 : decode bb_L_supply 23 = .ok (.iconst 0, 1) := by decide +kernel
theorem dd_L_supply_24 : decode bb_L_supply 24 = .ok (.ireturn, 1) := by decide +kernel
theorem dd_L_round_0 : decode bb_L_round 0 = .ok (.aload 4, 2) := by decide +kernel
theorem dd_L_round_2 : decode bb_L_round 2 = .ok (.iconst 0, 1) := by decide +kernel
theorem dd_L_round_3 : decode bb_L_round 3 = .ok (.aload_n 0, 1) := by decide +kernel
theorem dd_L_round_4 : decode bb_L_round 4 = .ok (.lload_n 1, 1) := by decide +kernel
theorem dd_L_round_5 : decode bb_L_round 5 = .ok (.iload_n 3, 1) := by decide +kernel
theorem dd_L_round_6 : decode bb_L_round 6 = .ok (.invokevirtual 63, 3) := by decide +kernel
theorem dd_L_round_9 : decode bb_L_round 9 = .ok (.i2l, 1) := by decide +kernel
theorem dd_L_round_10 : decode bb_L_round 10 = .ok (.lastore, 1) := by decide +kernel
theorem dd_L_round_11 : decode bb_L_round 11 = .ok (.goto 11, 3) := by decide +kernel
theorem dd_L_round_14 : decode bb_L_round 14 = .ok (.astore 5, 2) := by decide +kernel
theorem dd_L_round_16 : decode bb_L_round 16 = .ok (.iconst 1, 1) := by decide +kernel
theorem dd_L_round_17 : decode bb_L_round 17 = .ok (.ireturn, 1) := by decide +kernel
theorem dd_L_round_18 : decode bb_L_round 18 = .ok (.astore 5, 2) := by decide +kernel
theorem dd_L_round_20 : decode bb_L_round 20 = .ok (.iconst 2, 1) := by decide +kernel
theorem dd_L_round_21 : decode bb_L_round 21 = .ok (.ireturn, 1) := by decide +kernel
theorem dd_L_round_22 : decode bb_L_round 22 = .ok (.iconst 0, 1) := by decide +kernel
theorem dd_L_round_23 : decode bb_L_round 23 = .ok (.ireturn, 1) := by decide +kernel
theorem dd_L_stop_0 : decode bb_L_stop 0 = .ok (.aload_n 2, 1) := by decide +kernel
theorem dd_L_stop_1 : decode bb_L_stop 1 = .ok (.iconst 0, 1) := by decide +kernel
theorem dd_L_stop_2 : decode bb_L_stop 2 = .ok (.aload_n 0, 1) := by decide +kernel
theorem dd_L_stop_3 : decode bb_L_stop 3 = .ok (.iload_n 1, 1) := by decide +kernel
theorem dd_L_stop_4 : decode bb_L_stop 4 = .ok (.invokevirtual 67, 3) := by decide +kernel
theorem dd_L_stop_7 : decode bb_L_stop 7 = .ok (.i2l, 1) := by decide +kernel
theorem dd_L_stop_8 : decode bb_L_stop 8 = .ok (.lastore, 1) := by decide +kernel
theorem dd_L_stop_9 : decode bb_L_stop 9 = .ok (.goto 6, 3) := by decide +kernel
theorem dd_L_stop_12 : decode bb_L_stop 12 = .ok (.astore_n 3, 1) := by decide +kernel
theorem dd_L_stop_13 : decode bb_L_stop 13 = .ok (.iconst 1, 1) := by decide +kernel
theorem dd_L_stop_14 : decode bb_L_stop 14 = .ok (.ireturn, 1) := by decide +kernel
theorem dd_L_stop_15 : decode bb_L_stop 15 = .ok (.iconst 0, 1) := by decide +kernel
theorem dd_L_stop_16 : decode bb_L_stop 16 = .ok (.ireturn, 1) := by decide +kernel
theorem dd_L_overdue_0 : decode bb_L_overdue 0 = .ok (.aload 4, 2) := by decide +kernel
theorem dd_L_overdue_2 : decode bb_L_overdue 2 = .ok (.iconst 0, 1) := by decide +kernel
theorem dd_L_overdue_3 : decode bb_L_overdue 3 = .ok (.aload_n 0, 1) := by decide +kernel
theorem dd_L_overdue_4 : decode bb_L_overdue 4 = .ok (.iload_n 1, 1) := by decide +kernel
theorem dd_L_overdue_5 : decode bb_L_overdue 5 = .ok (.iload_n 2, 1) := by decide +kernel
theorem dd_L_overdue_6 : decode bb_L_overdue 6 = .ok (.iload_n 3, 1) := by decide +kernel
theorem dd_L_overdue_7 : decode bb_L_overdue 7 = .ok (.invokevirtual 70, 3) := by decide +kernel
theorem dd_L_overdue_10 : decode bb_L_overdue 10 = .ok (.i2l, 1) := by decide +kernel
theorem dd_L_overdue_11 : decode bb_L_overdue 11 = .ok (.lastore, 1) := by decide +kernel
theorem dd_L_overdue_12 : decode bb_L_overdue 12 = .ok (.goto 7, 3) := by decide +kernel
theorem dd_L_overdue_15 : decode bb_L_overdue 15 = .ok (.astore 5, 2) := by decide +kernel
theorem dd_L_overdue_17 : decode bb_L_overdue 17 = .ok (.iconst 1, 1) := by decide +kernel
theorem dd_L_overdue_18 : decode bb_L_overdue 18 = .ok (.ireturn, 1) := by decide +kernel
theorem dd_L_overdue_19 : decode bb_L_overdue 19 = .ok (.iconst 0, 1) := by decide +kernel
theorem dd_L_overdue_20 : decode bb_L_overdue 20 = .ok (.ireturn, 1) := by decide +kernel
theorem dd_L_testAt_0 : decode bb_L_testAt 0 = .ok (.aload_n 3, 1) := by decide +kernel
theorem dd_L_testAt_1 : decode bb_L_testAt 1 = .ok (.iconst 0, 1) := by decide +kernel
theorem dd_L_testAt_2 : decode bb_L_testAt 2 = .ok (.aload_n 0, 1) := by decide +kernel
theorem dd_L_testAt_3 : decode bb_L_testAt 3 = .ok (.iload_n 1, 1) := by decide +kernel
theorem dd_L_testAt_4 : decode bb_L_testAt 4 = .ok (.iload_n 2, 1) := by decide +kernel
theorem dd_L_testAt_5 : decode bb_L_testAt 5 = .ok (.invokevirtual 73, 3) := by decide +kernel
theorem dd_L_testAt_8 : decode bb_L_testAt 8 = .ok (.i2l, 1) := by decide +kernel
theorem dd_L_testAt_9 : decode bb_L_testAt 9 = .ok (.lastore, 1) := by decide +kernel
theorem dd_L_testAt_10 : decode bb_L_testAt 10 = .ok (.goto 7, 3) := by decide +kernel
theorem dd_L_testAt_13 : decode bb_L_testAt 13 = .ok (.astore 4, 2) := by decide +kernel
theorem dd_L_testAt_15 : decode bb_L_testAt 15 = .ok (.iconst 1, 1) := by decide +kernel
theorem dd_L_testAt_16 : decode bb_L_testAt 16 = .ok (.ireturn, 1) := by decide +kernel
theorem dd_L_testAt_17 : decode bb_L_testAt 17 = .ok (.iconst 0, 1) := by decide +kernel
theorem dd_L_testAt_18 : decode bb_L_testAt 18 = .ok (.ireturn, 1) := by decide +kernel
theorem dd_L_hydrantAt_0 : decode bb_L_hydrantAt 0 = .ok (.aload_n 3, 1) := by decide +kernel
theorem dd_L_hydrantAt_1 : decode bb_L_hydrantAt 1 = .ok (.iconst 0, 1) := by decide +kernel
theorem dd_L_hydrantAt_2 : decode bb_L_hydrantAt 2 = .ok (.aload_n 0, 1) := by decide +kernel
theorem dd_L_hydrantAt_3 : decode bb_L_hydrantAt 3 = .ok (.iload_n 1, 1) := by decide +kernel
theorem dd_L_hydrantAt_4 : decode bb_L_hydrantAt 4 = .ok (.iload_n 2, 1) := by decide +kernel
theorem dd_L_hydrantAt_5 : decode bb_L_hydrantAt 5 = .ok (.invokevirtual 77, 3) := by decide +kernel
theorem dd_L_hydrantAt_8 : decode bb_L_hydrantAt 8 = .ok (.i2l, 1) := by decide +kernel
theorem dd_L_hydrantAt_9 : decode bb_L_hydrantAt 9 = .ok (.lastore, 1) := by decide +kernel
theorem dd_L_hydrantAt_10 : decode bb_L_hydrantAt 10 = .ok (.goto 7, 3) := by decide +kernel
theorem dd_L_hydrantAt_13 : decode bb_L_hydrantAt 13 = .ok (.astore 4, 2) := by decide +kernel
theorem dd_L_hydrantAt_15 : decode bb_L_hydrantAt 15 = .ok (.iconst 1, 1) := by decide +kernel
theorem dd_L_hydrantAt_16 : decode bb_L_hydrantAt 16 = .ok (.ireturn, 1) := by decide +kernel
theorem dd_L_hydrantAt_17 : decode bb_L_hydrantAt 17 = .ok (.iconst 0, 1) := by decide +kernel
theorem dd_L_hydrantAt_18 : decode bb_L_hydrantAt 18 = .ok (.ireturn, 1) := by decide +kernel
end
section
theorem dd_L_law_0 : decode bb_L_law 0 = .ok (.new 8, 3) := by decide +kernel
theorem dd_L_law_3 : decode bb_L_law 3 = .ok (.dup, 1) := by decide +kernel
theorem dd_L_law_4 : decode bb_L_law 4 = .ok (.invokespecial 80, 3) := by decide +kernel
theorem dd_L_law_7 : decode bb_L_law 7 = .ok (.astore_n 1, 1) := by decide +kernel
theorem dd_L_law_8 : decode bb_L_law 8 = .ok (.new 81, 3) := by decide +kernel
theorem dd_L_law_11 : decode bb_L_law 11 = .ok (.dup, 1) := by decide +kernel
theorem dd_L_law_12 : decode bb_L_law 12 = .ok (.invokespecial 83, 3) := by decide +kernel
theorem dd_L_law_15 : decode bb_L_law 15 = .ok (.astore_n 2, 1) := by decide +kernel
theorem dd_L_law_16 : decode bb_L_law 16 = .ok (.iconst 1, 1) := by decide +kernel
theorem dd_L_law_17 : decode bb_L_law 17 = .ok (.newarray .long, 2) := by decide +kernel
theorem dd_L_law_19 : decode bb_L_law 19 = .ok (.astore_n 3, 1) := by decide +kernel
theorem dd_L_law_20 : decode bb_L_law 20 = .ok (.iconst 0, 1) := by decide +kernel
theorem dd_L_law_21 : decode bb_L_law 21 = .ok (.istore 4, 2) := by decide +kernel
theorem dd_L_law_23 : decode bb_L_law 23 = .ok (.iload 4, 2) := by decide +kernel
theorem dd_L_law_25 : decode bb_L_law 25 = .ok (.aload_n 0, 1) := by decide +kernel
theorem dd_L_law_26 : decode bb_L_law 26 = .ok (.arraylength, 1) := by decide +kernel
theorem dd_L_law_27 : decode bb_L_law 27 = .ok (.bipush 6, 2) := by decide +kernel
theorem dd_L_law_29 : decode bb_L_law 29 = .ok (.isub, 1) := by decide +kernel
theorem dd_L_law_30 : decode bb_L_law 30 = .ok (.if_icmp .gt 1430, 3) := by decide +kernel
theorem dd_L_law_33 : decode bb_L_law 33 = .ok (.aload_n 0, 1) := by decide +kernel
theorem dd_L_law_34 : decode bb_L_law 34 = .ok (.iload 4, 2) := by decide +kernel
theorem dd_L_law_36 : decode bb_L_law 36 = .ok (.iaload, 1) := by decide +kernel
theorem dd_L_law_37 : decode bb_L_law 37 = .ok (.bipush 31, 2) := by decide +kernel
theorem dd_L_law_39 : decode bb_L_law 39 = .ok (.iand, 1) := by decide +kernel
theorem dd_L_law_40 : decode bb_L_law 40 = .ok (.tableswitch 1414 0 17 #[88, 180, 228, 267, 371, 451, 507, 555, 615, 691, 766, 858, 938, 1042, 1142, 1198, 1278, 1346], 88) := by decide +kernel
theorem dd_L_law_128 : decode bb_L_law 128 = .ok (.aload_n 1, 1) := by decide +kernel
theorem dd_L_law_129 : decode bb_L_law 129 = .ok (.aload_n 0, 1) := by decide +kernel
theorem dd_L_law_130 : decode bb_L_law 130 = .ok (.iload 4, 2) := by decide +kernel
theorem dd_L_law_132 : decode bb_L_law 132 = .ok (.iconst 1, 1) := by decide +kernel
theorem dd_L_law_133 : decode bb_L_law 133 = .ok (.iadd, 1) := by decide +kernel
theorem dd_L_law_134 : decode bb_L_law 134 = .ok (.iaload, 1) := by decide +kernel
theorem dd_L_law_135 : decode bb_L_law 135 = .ok (.aload_n 0, 1) := by decide +kernel
theorem dd_L_law_136 : decode bb_L_law 136 = .ok (.iload 4, 2) := by decide +kernel
theorem dd_L_law_138 : decode bb_L_law 138 = .ok (.iconst 2, 1) := by decide +kernel
theorem dd_L_law_139 : decode bb_L_law 139 = .ok (.iadd, 1) := by decide +kernel
theorem dd_L_law_140 : decode bb_L_law 140 = .ok (.iaload, 1) := by decide +kernel
theorem dd_L_law_141 : decode bb_L_law 141 = .ok (.aload_n 0, 1) := by decide +kernel
theorem dd_L_law_142 : decode bb_L_law 142 = .ok (.iload 4, 2) := by decide +kernel
theorem dd_L_law_144 : decode bb_L_law 144 = .ok (.iconst 3, 1) := by decide +kernel
theorem dd_L_law_145 : decode bb_L_law 145 = .ok (.iadd, 1) := by decide +kernel
theorem dd_L_law_146 : decode bb_L_law 146 = .ok (.iaload, 1) := by decide +kernel
theorem dd_L_law_147 : decode bb_L_law 147 = .ok (.aload_n 0, 1) := by decide +kernel
theorem dd_L_law_148 : decode bb_L_law 148 = .ok (.iload 4, 2) := by decide +kernel
theorem dd_L_law_150 : decode bb_L_law 150 = .ok (.iconst 4, 1) := by decide +kernel
theorem dd_L_law_151 : decode bb_L_law 151 = .ok (.iadd, 1) := by decide +kernel
theorem dd_L_law_152 : decode bb_L_law 152 = .ok (.iaload, 1) := by decide +kernel
theorem dd_L_law_153 : decode bb_L_law 153 = .ok (.aload_n 3, 1) := by decide +kernel
theorem dd_L_law_154 : decode bb_L_law 154 = .ok (.invokestatic 84, 3) := by decide +kernel
theorem dd_L_law_157 : decode bb_L_law 157 = .ok (.istore 5, 2) := by decide +kernel
theorem dd_L_law_159 : decode bb_L_law 159 = .ok (.aload_n 2, 1) := by decide +kernel
theorem dd_L_law_160 : decode bb_L_law 160 = .ok (.aload_n 0, 1) := by decide +kernel
theorem dd_L_law_161 : decode bb_L_law 161 = .ok (.iload 4, 2) := by decide +kernel
theorem dd_L_law_163 : decode bb_L_law 163 = .ok (.iconst 1, 1) := by decide +kernel
theorem dd_L_law_164 : decode bb_L_law 164 = .ok (.iadd, 1) := by decide +kernel
theorem dd_L_law_165 : decode bb_L_law 165 = .ok (.iaload, 1) := by decide +kernel
theorem dd_L_law_166 : decode bb_L_law 166 = .ok (.aload_n 0, 1) := by decide +kernel
theorem dd_L_law_167 : decode bb_L_law 167 = .ok (.iload 4, 2) := by decide +kernel
theorem dd_L_law_169 : decode bb_L_law 169 = .ok (.iconst 2, 1) := by decide +kernel
theorem dd_L_law_170 : decode bb_L_law 170 = .ok (.iadd, 1) := by decide +kernel
theorem dd_L_law_171 : decode bb_L_law 171 = .ok (.iaload, 1) := by decide +kernel
theorem dd_L_law_172 : decode bb_L_law 172 = .ok (.aload_n 0, 1) := by decide +kernel
theorem dd_L_law_173 : decode bb_L_law 173 = .ok (.iload 4, 2) := by decide +kernel
theorem dd_L_law_175 : decode bb_L_law 175 = .ok (.iconst 3, 1) := by decide +kernel
theorem dd_L_law_176 : decode bb_L_law 176 = .ok (.iadd, 1) := by decide +kernel
theorem dd_L_law_177 : decode bb_L_law 177 = .ok (.iaload, 1) := by decide +kernel
theorem dd_L_law_178 : decode bb_L_law 178 = .ok (.aload_n 0, 1) := by decide +kernel
theorem dd_L_law_179 : decode bb_L_law 179 = .ok (.iload 4, 2) := by decide +kernel
theorem dd_L_law_181 : decode bb_L_law 181 = .ok (.iconst 4, 1) := by decide +kernel
theorem dd_L_law_182 : decode bb_L_law 182 = .ok (.iadd, 1) := by decide +kernel
theorem dd_L_law_183 : decode bb_L_law 183 = .ok (.iaload, 1) := by decide +kernel
theorem dd_L_law_184 : decode bb_L_law 184 = .ok (.invokevirtual 89, 3) := by decide +kernel
theorem dd_L_law_187 : decode bb_L_law 187 = .ok (.istore 6, 2) := by decide +kernel
theorem dd_L_law_189 : decode bb_L_law 189 = .ok (.aload_n 2, 1) := by decide +kernel
theorem dd_L_law_190 : decode bb_L_law 190 = .ok (.invokevirtual 90, 3) := by decide +kernel
theorem dd_L_law_193 : decode bb_L_law 193 = .ok (.iload 5, 2) := by decide +kernel
theorem dd_L_law_195 : decode bb_L_law 195 = .ok (.if_icmp .eq 5, 3) := by decide +kernel
theorem dd_L_law_198 : decode bb_L_law 198 = .ok (.iconst 0, 1) := by decide +kernel
theorem dd_L_law_199 : decode bb_L_law 199 = .ok (.ireturn, 1) := by decide +kernel
theorem dd_L_law_200 : decode bb_L_law 200 = .ok (.iload 5, 2) := by decide +kernel
theorem dd_L_law_202 : decode bb_L_law 202 = .ok (.ifCond .ne 15, 3) := by decide +kernel
theorem dd_L_law_205 : decode bb_L_law 205 = .ok (.aload_n 3, 1) := by decide +kernel
theorem dd_L_law_206 : decode bb_L_law 206 = .ok (.iconst 0, 1) := by decide +kernel
theorem dd_L_law_207 : decode bb_L_law 207 = .ok (.laload, 1) := by decide +kernel
theorem dd_L_law_208 : decode bb_L_law 208 = .ok (.iload 6, 2) := by decide +kernel
theorem dd_L_law_210 : decode bb_L_law 210 = .ok (.i2l, 1) := by decide +kernel
theorem dd_L_law_211 : decode bb_L_law 211 = .ok (.lcmp, 1) := by decide +kernel
theorem dd_L_law_212 : decode bb_L_law 212 = .ok (.ifCond .eq 5, 3) := by decide +kernel
theorem dd_L_law_215 : decode bb_L_law 215 = .ok (.iconst 0, 1) := by decide +kernel
theorem dd_L_law_216 : decode bb_L_law 216 = .ok (.ireturn, 1) := by decide +kernel
theorem dd_L_law_217 : decode bb_L_law 217 = .ok (.goto 1237, 3) := by decide +kernel
theorem dd_L_law_220 : decode bb_L_law 220 = .ok (.aload_n 1, 1) := by decide +kernel
theorem dd_L_law_221 : decode bb_L_law 221 = .ok (.aload_n 0, 1) := by decide +kernel
theorem dd_L_law_222 : decode bb_L_law 222 = .ok (.iload 4, 2) := by decide +kernel
theorem dd_L_law_224 : decode bb_L_law 224 = .ok (.iconst 1, 1) := by decide +kernel
theorem dd_L_law_225 : decode bb_L_law 225 = .ok (.iadd, 1) := by decide +kernel
theorem dd_L_law_226 : decode bb_L_law 226 = .ok (.iaload, 1) := by decide +kernel
theorem dd_L_law_227 : decode bb_L_law 227 = .ok (.aload_n 0, 1) := by decide +kernel
theorem dd_L_law_228 : decode bb_L_law 228 = .ok (.iload 4, 2) := by decide +kernel
theorem dd_L_law_230 : decode bb_L_law 230 = .ok (.iconst 2, 1) := by decide +kernel
theorem dd_L_law_231 : decode bb_L_law 231 = .ok (.iadd, 1) := by decide +kernel
theorem dd_L_law_232 : decode bb_L_law 232 = .ok (.iaload, 1) := by decide +kernel
theorem dd_L_law_233 : decode bb_L_law 233 = .ok (.invokestatic 94, 3) := by decide +kernel
theorem dd_L_law_236 : decode bb_L_law 236 = .ok (.istore 5, 2) := by decide +kernel
theorem dd_L_law_238 : decode bb_L_law 238 = .ok (.aload_n 2, 1) := by decide +kernel
theorem dd_L_law_239 : decode bb_L_law 239 = .ok (.aload_n 0, 1) := by decide +kernel
theorem dd_L_law_240 : decode bb_L_law 240 = .ok (.iload 4, 2) := by decide +kernel
theorem dd_L_law_242 : decode bb_L_law 242 = .ok (.iconst 1, 1) := by decide +kernel
theorem dd_L_law_243 : decode bb_L_law 243 = .ok (.iadd, 1) := by decide +kernel
theorem dd_L_law_244 : decode bb_L_law 244 = .ok (.iaload, 1) := by decide +kernel
theorem dd_L_law_245 : decode bb_L_law 245 = .ok (.aload_n 0, 1) := by decide +kernel
theorem dd_L_law_246 : decode bb_L_law 246 = .ok (.iload 4, 2) := by decide +kernel
theorem dd_L_law_248 : decode bb_L_law 248 = .ok (.iconst 2, 1) := by decide +kernel
theorem dd_L_law_249 : decode bb_L_law 249 = .ok (.iadd, 1) := by decide +kernel
theorem dd_L_law_250 : decode bb_L_law 250 = .ok (.iaload, 1) := by decide +kernel
theorem dd_L_law_251 : decode bb_L_law 251 = .ok (.invokevirtual 97, 3) := by decide +kernel
theorem dd_L_law_254 : decode bb_L_law 254 = .ok (.aload_n 2, 1) := by decide +kernel
theorem dd_L_law_255 : decode bb_L_law 255 = .ok (.invokevirtual 90, 3) := by decide +kernel
theorem dd_L_law_258 : decode bb_L_law 258 = .ok (.iload 5, 2) := by decide +kernel
theorem dd_L_law_260 : decode bb_L_law 260 = .ok (.if_icmp .eq 5, 3) := by decide +kernel
theorem dd_L_law_263 : decode bb_L_law 263 = .ok (.iconst 0, 1) := by decide +kernel
theorem dd_L_law_264 : decode bb_L_law 264 = .ok (.ireturn, 1) := by decide +kernel
theorem dd_L_law_265 : decode bb_L_law 265 = .ok (.goto 1189, 3) := by decide +kernel
theorem dd_L_law_268 : decode bb_L_law 268 = .ok (.aload_n 1, 1) := by decide +kernel
theorem dd_L_law_269 : decode bb_L_law 269 = .ok (.aload_n 0, 1) := by decide +kernel
theorem dd_L_law_270 : decode bb_L_law 270 = .ok (.iload 4, 2) := by decide +kernel
theorem dd_L_law_272 : decode bb_L_law 272 = .ok (.iconst 1, 1) := by decide +kernel
theorem dd_L_law_273 : decode bb_L_law 273 = .ok (.iadd, 1) := by decide +kernel
theorem dd_L_law_274 : decode bb_L_law 274 = .ok (.iaload, 1) := by decide +kernel
theorem dd_L_law_275 : decode bb_L_law 275 = .ok (.ifCond .eq 7, 3) := by decide +kernel
theorem dd_L_law_278 : decode bb_L_law 278 = .ok (.iconst 1, 1) := by decide +kernel
theorem dd_L_law_279 : decode bb_L_law 279 = .ok (.goto 4, 3) := by decide +kernel
theorem dd_L_law_282 : decode bb_L_law 282 = .ok (.iconst 0, 1) := by decide +kernel
theorem dd_L_law_283 : decode bb_L_law 283 = .ok (.invokevirtual 98, 3) := by decide +kernel
theorem dd_L_law_286 : decode bb_L_law 286 = .ok (.aload_n 2, 1) := by decide +kernel
theorem dd_L_law_287 : decode bb_L_law 287 = .ok (.aload_n 0, 1) := by decide +kernel
theorem dd_L_law_288 : decode bb_L_law 288 = .ok (.iload 4, 2) := by decide +kernel
theorem dd_L_law_290 : decode bb_L_law 290 = .ok (.iconst 1, 1) := by decide +kernel
theorem dd_L_law_291 : decode bb_L_law 291 = .ok (.iadd, 1) := by decide +kernel
theorem dd_L_law_292 : decode bb_L_law 292 = .ok (.iaload, 1) := by decide +kernel
theorem dd_L_law_293 : decode bb_L_law 293 = .ok (.ifCond .eq 7, 3) := by decide +kernel
theorem dd_L_law_296 : decode bb_L_law 296 = .ok (.iconst 1, 1) := by decide +kernel
theorem dd_L_law_297 : decode bb_L_law 297 = .ok (.goto 4, 3) := by decide +kernel
theorem dd_L_law_300 : decode bb_L_law 300 = .ok (.iconst 0, 1) := by decide +kernel
theorem dd_L_law_301 : decode bb_L_law 301 = .ok (.invokevirtual 102, 3) := by decide +kernel
theorem dd_L_law_304 : decode bb_L_law 304 = .ok (.goto 1150, 3) := by decide +kernel
theorem dd_L_law_307 : decode bb_L_law 307 = .ok (.aload_n 1, 1) := by decide +kernel
theorem dd_L_law_308 : decode bb_L_law 308 = .ok (.aload_n 0, 1) := by decide +kernel
theorem dd_L_law_309 : decode bb_L_law 309 = .ok (.iload 4, 2) := by decide +kernel
theorem dd_L_law_311 : decode bb_L_law 311 = .ok (.iconst 1, 1) := by decide +kernel
theorem dd_L_law_312 : decode bb_L_law 312 = .ok (.iadd, 1) := by decide +kernel
theorem dd_L_law_313 : decode bb_L_law 313 = .ok (.iaload, 1) := by decide +kernel
theorem dd_L_law_314 : decode bb_L_law 314 = .ok (.aload_n 0, 1) := by decide +kernel
theorem dd_L_law_315 : decode bb_L_law 315 = .ok (.iload 4, 2) := by decide +kernel
theorem dd_L_law_317 : decode bb_L_law 317 = .ok (.iconst 2, 1) := by decide +kernel
theorem dd_L_law_318 : decode bb_L_law 318 = .ok (.iadd, 1) := by decide +kernel
theorem dd_L_law_319 : decode bb_L_law 319 = .ok (.iaload, 1) := by decide +kernel
theorem dd_L_law_320 : decode bb_L_law 320 = .ok (.aload_n 0, 1) := by decide +kernel
theorem dd_L_law_321 : decode bb_L_law 321 = .ok (.iload 4, 2) := by decide +kernel
theorem dd_L_law_323 : decode bb_L_law 323 = .ok (.iconst 3, 1) := by decide +kernel
theorem dd_L_law_324 : decode bb_L_law 324 = .ok (.iadd, 1) := by decide +kernel
theorem dd_L_law_325 : decode bb_L_law 325 = .ok (.iaload, 1) := by decide +kernel
theorem dd_L_law_326 : decode bb_L_law 326 = .ok (.aload_n 0, 1) := by decide +kernel
theorem dd_L_law_327 : decode bb_L_law 327 = .ok (.iload 4, 2) := by decide +kernel
theorem dd_L_law_329 : decode bb_L_law 329 = .ok (.iconst 4, 1) := by decide +kernel
theorem dd_L_law_330 : decode bb_L_law 330 = .ok (.iadd, 1) := by decide +kernel
theorem dd_L_law_331 : decode bb_L_law 331 = .ok (.iaload, 1) := by decide +kernel
theorem dd_L_law_332 : decode bb_L_law 332 = .ok (.aload_n 0, 1) := by decide +kernel
theorem dd_L_law_333 : decode bb_L_law 333 = .ok (.iload 4, 2) := by decide +kernel
theorem dd_L_law_335 : decode bb_L_law 335 = .ok (.iconst 5, 1) := by decide +kernel
theorem dd_L_law_336 : decode bb_L_law 336 = .ok (.iadd, 1) := by decide +kernel
theorem dd_L_law_337 : decode bb_L_law 337 = .ok (.iaload, 1) := by decide +kernel
theorem dd_L_law_338 : decode bb_L_law 338 = .ok (.aload_n 3, 1) := by decide +kernel
theorem dd_L_law_339 : decode bb_L_law 339 = .ok (.invokestatic 103, 3) := by decide +kernel
theorem dd_L_law_342 : decode bb_L_law 342 = .ok (.istore 5, 2) := by decide +kernel
theorem dd_L_law_344 : decode bb_L_law 344 = .ok (.aload_n 2, 1) := by decide +kernel
theorem dd_L_law_345 : decode bb_L_law 345 = .ok (.aload_n 0, 1) := by decide +kernel
theorem dd_L_law_346 : decode bb_L_law 346 = .ok (.iload 4, 2) := by decide +kernel
theorem dd_L_law_348 : decode bb_L_law 348 = .ok (.iconst 1, 1) := by decide +kernel
theorem dd_L_law_349 : decode bb_L_law 349 = .ok (.iadd, 1) := by decide +kernel
theorem dd_L_law_350 : decode bb_L_law 350 = .ok (.iaload, 1) := by decide +kernel
theorem dd_L_law_351 : decode bb_L_law 351 = .ok (.aload_n 0, 1) := by decide +kernel
theorem dd_L_law_352 : decode bb_L_law 352 = .ok (.iload 4, 2) := by decide +kernel
theorem dd_L_law_354 : decode bb_L_law 354 = .ok (.iconst 2, 1) := by decide +kernel
theorem dd_L_law_355 : decode bb_L_law 355 = .ok (.iadd, 1) := by decide +kernel
theorem dd_L_law_356 : decode bb_L_law 356 = .ok (.iaload, 1) := by decide +kernel
theorem dd_L_law_357 : decode bb_L_law 357 = .ok (.aload_n 0, 1) := by decide +kernel
theorem dd_L_law_358 : decode bb_L_law 358 = .ok (.iload 4, 2) := by decide +kernel
theorem dd_L_law_360 : decode bb_L_law 360 = .ok (.iconst 3, 1) := by decide +kernel
theorem dd_L_law_361 : decode bb_L_law 361 = .ok (.iadd, 1) := by decide +kernel
theorem dd_L_law_362 : decode bb_L_law 362 = .ok (.iaload, 1) := by decide +kernel
theorem dd_L_law_363 : decode bb_L_law 363 = .ok (.aload_n 0, 1) := by decide +kernel
theorem dd_L_law_364 : decode bb_L_law 364 = .ok (.iload 4, 2) := by decide +kernel
theorem dd_L_law_366 : decode bb_L_law 366 = .ok (.iconst 4, 1) := by decide +kernel
theorem dd_L_law_367 : decode bb_L_law 367 = .ok (.iadd, 1) := by decide +kernel
theorem dd_L_law_368 : decode bb_L_law 368 = .ok (.iaload, 1) := by decide +kernel
theorem dd_L_law_369 : decode bb_L_law 369 = .ok (.aload_n 0, 1) := by decide +kernel
theorem dd_L_law_370 : decode bb_L_law 370 = .ok (.iload 4, 2) := by decide +kernel
theorem dd_L_law_372 : decode bb_L_law 372 = .ok (.iconst 5, 1) := by decide +kernel
theorem dd_L_law_373 : decode bb_L_law 373 = .ok (.iadd, 1) := by decide +kernel
theorem dd_L_law_374 : decode bb_L_law 374 = .ok (.iaload, 1) := by decide +kernel
theorem dd_L_law_375 : decode bb_L_law 375 = .ok (.invokevirtual 106, 3) := by decide +kernel
theorem dd_L_law_378 : decode bb_L_law 378 = .ok (.istore 6, 2) := by decide +kernel
theorem dd_L_law_380 : decode bb_L_law 380 = .ok (.aload_n 2, 1) := by decide +kernel
theorem dd_L_law_381 : decode bb_L_law 381 = .ok (.invokevirtual 90, 3) := by decide +kernel
theorem dd_L_law_384 : decode bb_L_law 384 = .ok (.iload 5, 2) := by decide +kernel
theorem dd_L_law_386 : decode bb_L_law 386 = .ok (.if_icmp .eq 5, 3) := by decide +kernel
theorem dd_L_law_389 : decode bb_L_law 389 = .ok (.iconst 0, 1) := by decide +kernel
theorem dd_L_law_390 : decode bb_L_law 390 = .ok (.ireturn, 1) := by decide +kernel
theorem dd_L_law_391 : decode bb_L_law 391 = .ok (.iload 5, 2) := by decide +kernel
theorem dd_L_law_393 : decode bb_L_law 393 = .ok (.ifCond .ne 15, 3) := by decide +kernel
theorem dd_L_law_396 : decode bb_L_law 396 = .ok (.aload_n 3, 1) := by decide +kernel
theorem dd_L_law_397 : decode bb_L_law 397 = .ok (.iconst 0, 1) := by decide +kernel
theorem dd_L_law_398 : decode bb_L_law 398 = .ok (.laload, 1) := by decide +kernel
theorem dd_L_law_399 : decode bb_L_law 399 = .ok (.iload 6, 2) := by decide +kernel
theorem dd_L_law_401 : decode bb_L_law 401 = .ok (.i2l, 1) := by decide +kernel
theorem dd_L_law_402 : decode bb_L_law 402 = .ok (.lcmp, 1) := by decide +kernel
theorem dd_L_law_403 : decode bb_L_law 403 = .ok (.ifCond .eq 5, 3) := by decide +kernel
theorem dd_L_law_406 : decode bb_L_law 406 = .ok (.iconst 0, 1) := by decide +kernel
theorem dd_L_law_407 : decode bb_L_law 407 = .ok (.ireturn, 1) := by decide +kernel
theorem dd_L_law_408 : decode bb_L_law 408 = .ok (.goto 1046, 3) := by decide +kernel
theorem dd_L_law_411 : decode bb_L_law 411 = .ok (.aload_n 1, 1) := by decide +kernel
theorem dd_L_law_412 : decode bb_L_law 412 = .ok (.aload_n 0, 1) := by decide +kernel
theorem dd_L_law_413 : decode bb_L_law 413 = .ok (.iload 4, 2) := by decide +kernel
theorem dd_L_law_415 : decode bb_L_law 415 = .ok (.iconst 1, 1) := by decide +kernel
theorem dd_L_law_416 : decode bb_L_law 416 = .ok (.iadd, 1) := by decide +kernel
theorem dd_L_law_417 : decode bb_L_law 417 = .ok (.iaload, 1) := by decide +kernel
theorem dd_L_law_418 : decode bb_L_law 418 = .ok (.aload_n 0, 1) := by decide +kernel
theorem dd_L_law_419 : decode bb_L_law 419 = .ok (.iload 4, 2) := by decide +kernel
theorem dd_L_law_421 : decode bb_L_law 421 = .ok (.iconst 2, 1) := by decide +kernel
theorem dd_L_law_422 : decode bb_L_law 422 = .ok (.iadd, 1) := by decide +kernel
theorem dd_L_law_423 : decode bb_L_law 423 = .ok (.iaload, 1) := by decide +kernel
theorem dd_L_law_424 : decode bb_L_law 424 = .ok (.aload_n 0, 1) := by decide +kernel
theorem dd_L_law_425 : decode bb_L_law 425 = .ok (.iload 4, 2) := by decide +kernel
theorem dd_L_law_427 : decode bb_L_law 427 = .ok (.iconst 3, 1) := by decide +kernel
theorem dd_L_law_428 : decode bb_L_law 428 = .ok (.iadd, 1) := by decide +kernel
theorem dd_L_law_429 : decode bb_L_law 429 = .ok (.iaload, 1) := by decide +kernel
theorem dd_L_law_430 : decode bb_L_law 430 = .ok (.aload_n 3, 1) := by decide +kernel
theorem dd_L_law_431 : decode bb_L_law 431 = .ok (.invokestatic 107, 3) := by decide +kernel
theorem dd_L_law_434 : decode bb_L_law 434 = .ok (.istore 5, 2) := by decide +kernel
theorem dd_L_law_436 : decode bb_L_law 436 = .ok (.aload_n 2, 1) := by decide +kernel
theorem dd_L_law_437 : decode bb_L_law 437 = .ok (.aload_n 0, 1) := by decide +kernel
theorem dd_L_law_438 : decode bb_L_law 438 = .ok (.iload 4, 2) := by decide +kernel
theorem dd_L_law_440 : decode bb_L_law 440 = .ok (.iconst 1, 1) := by decide +kernel
theorem dd_L_law_441 : decode bb_L_law 441 = .ok (.iadd, 1) := by decide +kernel
theorem dd_L_law_442 : decode bb_L_law 442 = .ok (.iaload, 1) := by decide +kernel
theorem dd_L_law_443 : decode bb_L_law 443 = .ok (.aload_n 0, 1) := by decide +kernel
theorem dd_L_law_444 : decode bb_L_law 444 = .ok (.iload 4, 2) := by decide +kernel
theorem dd_L_law_446 : decode bb_L_law 446 = .ok (.iconst 2, 1) := by decide +kernel
theorem dd_L_law_447 : decode bb_L_law 447 = .ok (.iadd, 1) := by decide +kernel
theorem dd_L_law_448 : decode bb_L_law 448 = .ok (.iaload, 1) := by decide +kernel
theorem dd_L_law_449 : decode bb_L_law 449 = .ok (.aload_n 0, 1) := by decide +kernel
theorem dd_L_law_450 : decode bb_L_law 450 = .ok (.iload 4, 2) := by decide +kernel
theorem dd_L_law_452 : decode bb_L_law 452 = .ok (.iconst 3, 1) := by decide +kernel
theorem dd_L_law_453 : decode bb_L_law 453 = .ok (.iadd, 1) := by decide +kernel
theorem dd_L_law_454 : decode bb_L_law 454 = .ok (.iaload, 1) := by decide +kernel
theorem dd_L_law_455 : decode bb_L_law 455 = .ok (.invokevirtual 110, 3) := by decide +kernel
theorem dd_L_law_458 : decode bb_L_law 458 = .ok (.istore 6, 2) := by decide +kernel
theorem dd_L_law_460 : decode bb_L_law 460 = .ok (.aload_n 2, 1) := by decide +kernel
theorem dd_L_law_461 : decode bb_L_law 461 = .ok (.invokevirtual 90, 3) := by decide +kernel
theorem dd_L_law_464 : decode bb_L_law 464 = .ok (.iload 5, 2) := by decide +kernel
theorem dd_L_law_466 : decode bb_L_law 466 = .ok (.if_icmp .eq 5, 3) := by decide +kernel
theorem dd_L_law_469 : decode bb_L_law 469 = .ok (.iconst 0, 1) := by decide +kernel
theorem dd_L_law_470 : decode bb_L_law 470 = .ok (.ireturn, 1) := by decide +kernel
theorem dd_L_law_471 : decode bb_L_law 471 = .ok (.iload 5, 2) := by decide +kernel
theorem dd_L_law_473 : decode bb_L_law 473 = .ok (.ifCond .ne 15, 3) := by decide +kernel
theorem dd_L_law_476 : decode bb_L_law 476 = .ok (.aload_n 3, 1) := by decide +kernel
theorem dd_L_law_477 : decode bb_L_law 477 = .ok (.iconst 0, 1) := by decide +kernel
theorem dd_L_law_478 : decode bb_L_law 478 = .ok (.laload, 1) := by decide +kernel
theorem dd_L_law_479 : decode bb_L_law 479 = .ok (.iload 6, 2) := by decide +kernel
theorem dd_L_law_481 : decode bb_L_law 481 = .ok (.i2l, 1) := by decide +kernel
theorem dd_L_law_482 : decode bb_L_law 482 = .ok (.lcmp, 1) := by decide +kernel
theorem dd_L_law_483 : decode bb_L_law 483 = .ok (.ifCond .eq 5, 3) := by decide +kernel
theorem dd_L_law_486 : decode bb_L_law 486 = .ok (.iconst 0, 1) := by decide +kernel
theorem dd_L_law_487 : decode bb_L_law 487 = .ok (.ireturn, 1) := by decide +kernel
theorem dd_L_law_488 : decode bb_L_law 488 = .ok (.goto 966, 3) := by decide +kernel
theorem dd_L_law_491 : decode bb_L_law 491 = .ok (.aload_n 1, 1) := by decide +kernel
theorem dd_L_law_492 : decode bb_L_law 492 = .ok (.aload_n 0, 1) := by decide +kernel
theorem dd_L_law_493 : decode bb_L_law 493 = .ok (.iload 4, 2) := by decide +kernel
theorem dd_L_law_495 : decode bb_L_law 495 = .ok (.iconst 1, 1) := by decide +kernel
theorem dd_L_law_496 : decode bb_L_law 496 = .ok (.iadd, 1) := by decide +kernel
theorem dd_L_law_497 : decode bb_L_law 497 = .ok (.iaload, 1) := by decide +kernel
theorem dd_L_law_498 : decode bb_L_law 498 = .ok (.aload_n 3, 1) := by decide +kernel
theorem dd_L_law_499 : decode bb_L_law 499 = .ok (.invokestatic 111, 3) := by decide +kernel
theorem dd_L_law_502 : decode bb_L_law 502 = .ok (.istore 5, 2) := by decide +kernel
theorem dd_L_law_504 : decode bb_L_law 504 = .ok (.aload_n 2, 1) := by decide +kernel
theorem dd_L_law_505 : decode bb_L_law 505 = .ok (.aload_n 0, 1) := by decide +kernel
theorem dd_L_law_506 : decode bb_L_law 506 = .ok (.iload 4, 2) := by decide +kernel
theorem dd_L_law_508 : decode bb_L_law 508 = .ok (.iconst 1, 1) := by decide +kernel
theorem dd_L_law_509 : decode bb_L_law 509 = .ok (.iadd, 1) := by decide +kernel
theorem dd_L_law_510 : decode bb_L_law 510 = .ok (.iaload, 1) := by decide +kernel
theorem dd_L_law_511 : decode bb_L_law 511 = .ok (.invokevirtual 114, 3) := by decide +kernel
theorem dd_L_law_514 : decode bb_L_law 514 = .ok (.istore 6, 2) := by decide +kernel
theorem dd_L_law_516 : decode bb_L_law 516 = .ok (.aload_n 2, 1) := by decide +kernel
theorem dd_L_law_517 : decode bb_L_law 517 = .ok (.invokevirtual 90, 3) := by decide +kernel
theorem dd_L_law_520 : decode bb_L_law 520 = .ok (.iload 5, 2) := by decide +kernel
theorem dd_L_law_522 : decode bb_L_law 522 = .ok (.if_icmp .eq 5, 3) := by decide +kernel
theorem dd_L_law_525 : decode bb_L_law 525 = .ok (.iconst 0, 1) := by decide +kernel
theorem dd_L_law_526 : decode bb_L_law 526 = .ok (.ireturn, 1) := by decide +kernel
theorem dd_L_law_527 : decode bb_L_law 527 = .ok (.iload 5, 2) := by decide +kernel
theorem dd_L_law_529 : decode bb_L_law 529 = .ok (.ifCond .ne 15, 3) := by decide +kernel
theorem dd_L_law_532 : decode bb_L_law 532 = .ok (.aload_n 3, 1) := by decide +kernel
theorem dd_L_law_533 : decode bb_L_law 533 = .ok (.iconst 0, 1) := by decide +kernel
theorem dd_L_law_534 : decode bb_L_law 534 = .ok (.laload, 1) := by decide +kernel
theorem dd_L_law_535 : decode bb_L_law 535 = .ok (.iload 6, 2) := by decide +kernel
theorem dd_L_law_537 : decode bb_L_law 537 = .ok (.i2l, 1) := by decide +kernel
theorem dd_L_law_538 : decode bb_L_law 538 = .ok (.lcmp, 1) := by decide +kernel
theorem dd_L_law_539 : decode bb_L_law 539 = .ok (.ifCond .eq 5, 3) := by decide +kernel
theorem dd_L_law_542 : decode bb_L_law 542 = .ok (.iconst 0, 1) := by decide +kernel
theorem dd_L_law_543 : decode bb_L_law 543 = .ok (.ireturn, 1) := by decide +kernel
theorem dd_L_law_544 : decode bb_L_law 544 = .ok (.goto 910, 3) := by decide +kernel
theorem dd_L_law_547 : decode bb_L_law 547 = .ok (.aload_n 1, 1) := by decide +kernel
theorem dd_L_law_548 : decode bb_L_law 548 = .ok (.aload_n 0, 1) := by decide +kernel
theorem dd_L_law_549 : decode bb_L_law 549 = .ok (.iload 4, 2) := by decide +kernel
theorem dd_L_law_551 : decode bb_L_law 551 = .ok (.iconst 1, 1) := by decide +kernel
theorem dd_L_law_552 : decode bb_L_law 552 = .ok (.iadd, 1) := by decide +kernel
theorem dd_L_law_553 : decode bb_L_law 553 = .ok (.iaload, 1) := by decide +kernel
theorem dd_L_law_554 : decode bb_L_law 554 = .ok (.aload_n 0, 1) := by decide +kernel
theorem dd_L_law_555 : decode bb_L_law 555 = .ok (.iload 4, 2) := by decide +kernel
theorem dd_L_law_557 : decode bb_L_law 557 = .ok (.iconst 2, 1) := by decide +kernel
theorem dd_L_law_558 : decode bb_L_law 558 = .ok (.iadd, 1) := by decide +kernel
theorem dd_L_law_559 : decode bb_L_law 559 = .ok (.iaload, 1) := by decide +kernel
theorem dd_L_law_560 : decode bb_L_law 560 = .ok (.invokestatic 115, 3) := by decide +kernel
theorem dd_L_law_563 : decode bb_L_law 563 = .ok (.istore 5, 2) := by decide +kernel
theorem dd_L_law_565 : decode bb_L_law 565 = .ok (.aload_n 2, 1) := by decide +kernel
theorem dd_L_law_566 : decode bb_L_law 566 = .ok (.aload_n 0, 1) := by decide +kernel
theorem dd_L_law_567 : decode bb_L_law 567 = .ok (.iload 4, 2) := by decide +kernel
theorem dd_L_law_569 : decode bb_L_law 569 = .ok (.iconst 1, 1) := by decide +kernel
theorem dd_L_law_570 : decode bb_L_law 570 = .ok (.iadd, 1) := by decide +kernel
theorem dd_L_law_571 : decode bb_L_law 571 = .ok (.iaload, 1) := by decide +kernel
theorem dd_L_law_572 : decode bb_L_law 572 = .ok (.aload_n 0, 1) := by decide +kernel
theorem dd_L_law_573 : decode bb_L_law 573 = .ok (.iload 4, 2) := by decide +kernel
theorem dd_L_law_575 : decode bb_L_law 575 = .ok (.iconst 2, 1) := by decide +kernel
theorem dd_L_law_576 : decode bb_L_law 576 = .ok (.iadd, 1) := by decide +kernel
theorem dd_L_law_577 : decode bb_L_law 577 = .ok (.iaload, 1) := by decide +kernel
theorem dd_L_law_578 : decode bb_L_law 578 = .ok (.invokevirtual 117, 3) := by decide +kernel
theorem dd_L_law_581 : decode bb_L_law 581 = .ok (.aload_n 2, 1) := by decide +kernel
theorem dd_L_law_582 : decode bb_L_law 582 = .ok (.invokevirtual 90, 3) := by decide +kernel
theorem dd_L_law_585 : decode bb_L_law 585 = .ok (.iload 5, 2) := by decide +kernel
theorem dd_L_law_587 : decode bb_L_law 587 = .ok (.if_icmp .eq 5, 3) := by decide +kernel
theorem dd_L_law_590 : decode bb_L_law 590 = .ok (.iconst 0, 1) := by decide +kernel
theorem dd_L_law_591 : decode bb_L_law 591 = .ok (.ireturn, 1) := by decide +kernel
theorem dd_L_law_592 : decode bb_L_law 592 = .ok (.goto 862, 3) := by decide +kernel
theorem dd_L_law_595 : decode bb_L_law 595 = .ok (.aload_n 1, 1) := by decide +kernel
theorem dd_L_law_596 : decode bb_L_law 596 = .ok (.aload_n 0, 1) := by decide +kernel
theorem dd_L_law_597 : decode bb_L_law 597 = .ok (.iload 4, 2) := by decide +kernel
theorem dd_L_law_599 : decode bb_L_law 599 = .ok (.iconst 1, 1) := by decide +kernel
theorem dd_L_law_600 : decode bb_L_law 600 = .ok (.iadd, 1) := by decide +kernel
theorem dd_L_law_601 : decode bb_L_law 601 = .ok (.iaload, 1) := by decide +kernel
theorem dd_L_law_602 : decode bb_L_law 602 = .ok (.aload_n 0, 1) := by decide +kernel
theorem dd_L_law_603 : decode bb_L_law 603 = .ok (.iload 4, 2) := by decide +kernel
theorem dd_L_law_605 : decode bb_L_law 605 = .ok (.iconst 2, 1) := by decide +kernel
theorem dd_L_law_606 : decode bb_L_law 606 = .ok (.iadd, 1) := by decide +kernel
theorem dd_L_law_607 : decode bb_L_law 607 = .ok (.iaload, 1) := by decide +kernel
theorem dd_L_law_608 : decode bb_L_law 608 = .ok (.aload_n 0, 1) := by decide +kernel
theorem dd_L_law_609 : decode bb_L_law 609 = .ok (.iload 4, 2) := by decide +kernel
theorem dd_L_law_611 : decode bb_L_law 611 = .ok (.iconst 3, 1) := by decide +kernel
theorem dd_L_law_612 : decode bb_L_law 612 = .ok (.iadd, 1) := by decide +kernel
theorem dd_L_law_613 : decode bb_L_law 613 = .ok (.iaload, 1) := by decide +kernel
theorem dd_L_law_614 : decode bb_L_law 614 = .ok (.invokestatic 118, 3) := by decide +kernel
theorem dd_L_law_617 : decode bb_L_law 617 = .ok (.istore 5, 2) := by decide +kernel
theorem dd_L_law_619 : decode bb_L_law 619 = .ok (.aload_n 2, 1) := by decide +kernel
theorem dd_L_law_620 : decode bb_L_law 620 = .ok (.aload_n 0, 1) := by decide +kernel
theorem dd_L_law_621 : decode bb_L_law 621 = .ok (.iload 4, 2) := by decide +kernel
theorem dd_L_law_623 : decode bb_L_law 623 = .ok (.iconst 1, 1) := by decide +kernel
theorem dd_L_law_624 : decode bb_L_law 624 = .ok (.iadd, 1) := by decide +kernel
theorem dd_L_law_625 : decode bb_L_law 625 = .ok (.iaload, 1) := by decide +kernel
theorem dd_L_law_626 : decode bb_L_law 626 = .ok (.aload_n 0, 1) := by decide +kernel
theorem dd_L_law_627 : decode bb_L_law 627 = .ok (.iload 4, 2) := by decide +kernel
theorem dd_L_law_629 : decode bb_L_law 629 = .ok (.iconst 2, 1) := by decide +kernel
theorem dd_L_law_630 : decode bb_L_law 630 = .ok (.iadd, 1) := by decide +kernel
theorem dd_L_law_631 : decode bb_L_law 631 = .ok (.iaload, 1) := by decide +kernel
theorem dd_L_law_632 : decode bb_L_law 632 = .ok (.aload_n 0, 1) := by decide +kernel
theorem dd_L_law_633 : decode bb_L_law 633 = .ok (.iload 4, 2) := by decide +kernel
theorem dd_L_law_635 : decode bb_L_law 635 = .ok (.iconst 3, 1) := by decide +kernel
theorem dd_L_law_636 : decode bb_L_law 636 = .ok (.iadd, 1) := by decide +kernel
theorem dd_L_law_637 : decode bb_L_law 637 = .ok (.iaload, 1) := by decide +kernel
theorem dd_L_law_638 : decode bb_L_law 638 = .ok (.invokevirtual 121, 3) := by decide +kernel
theorem dd_L_law_641 : decode bb_L_law 641 = .ok (.aload_n 2, 1) := by decide +kernel
theorem dd_L_law_642 : decode bb_L_law 642 = .ok (.invokevirtual 90, 3) := by decide +kernel
theorem dd_L_law_645 : decode bb_L_law 645 = .ok (.iload 5, 2) := by decide +kernel
theorem dd_L_law_647 : decode bb_L_law 647 = .ok (.if_icmp .eq 5, 3) := by decide +kernel
theorem dd_L_law_650 : decode bb_L_law 650 = .ok (.iconst 0, 1) := by decide +kernel
theorem dd_L_law_651 : decode bb_L_law 651 = .ok (.ireturn, 1) := by decide +kernel
theorem dd_L_law_652 : decode bb_L_law 652 = .ok (.goto 802, 3) := by decide +kernel
theorem dd_L_law_655 : decode bb_L_law 655 = .ok (.aload_n 1, 1) := by decide +kernel
theorem dd_L_law_656 : decode bb_L_law 656 = .ok (.aload_n 0, 1) := by decide +kernel
theorem dd_L_law_657 : decode bb_L_law 657 = .ok (.iload 4, 2) := by decide +kernel
theorem dd_L_law_659 : decode bb_L_law 659 = .ok (.iconst 1, 1) := by decide +kernel
theorem dd_L_law_660 : decode bb_L_law 660 = .ok (.iadd, 1) := by decide +kernel
theorem dd_L_law_661 : decode bb_L_law 661 = .ok (.iaload, 1) := by decide +kernel
theorem dd_L_law_662 : decode bb_L_law 662 = .ok (.aload_n 0, 1) := by decide +kernel
theorem dd_L_law_663 : decode bb_L_law 663 = .ok (.iload 4, 2) := by decide +kernel
theorem dd_L_law_665 : decode bb_L_law 665 = .ok (.iconst 2, 1) := by decide +kernel
theorem dd_L_law_666 : decode bb_L_law 666 = .ok (.iadd, 1) := by decide +kernel
theorem dd_L_law_667 : decode bb_L_law 667 = .ok (.iaload, 1) := by decide +kernel
theorem dd_L_law_668 : decode bb_L_law 668 = .ok (.aload_n 0, 1) := by decide +kernel
theorem dd_L_law_669 : decode bb_L_law 669 = .ok (.iload 4, 2) := by decide +kernel
theorem dd_L_law_671 : decode bb_L_law 671 = .ok (.iconst 3, 1) := by decide +kernel
theorem dd_L_law_672 : decode bb_L_law 672 = .ok (.iadd, 1) := by decide +kernel
theorem dd_L_law_673 : decode bb_L_law 673 = .ok (.iaload, 1) := by decide +kernel
theorem dd_L_law_674 : decode bb_L_law 674 = .ok (.ifCond .eq 7, 3) := by decide +kernel
theorem dd_L_law_677 : decode bb_L_law 677 = .ok (.iconst 1, 1) := by decide +kernel
theorem dd_L_law_678 : decode bb_L_law 678 = .ok (.goto 4, 3) := by decide +kernel
theorem dd_L_law_681 : decode bb_L_law 681 = .ok (.iconst 0, 1) := by decide +kernel
theorem dd_L_law_682 : decode bb_L_law 682 = .ok (.invokestatic 122, 3) := by decide +kernel
theorem dd_L_law_685 : decode bb_L_law 685 = .ok (.istore 5, 2) := by decide +kernel
theorem dd_L_law_687 : decode bb_L_law 687 = .ok (.aload_n 2, 1) := by decide +kernel
theorem dd_L_law_688 : decode bb_L_law 688 = .ok (.aload_n 0, 1) := by decide +kernel
theorem dd_L_law_689 : decode bb_L_law 689 = .ok (.iload 4, 2) := by decide +kernel
theorem dd_L_law_691 : decode bb_L_law 691 = .ok (.iconst 1, 1) := by decide +kernel
theorem dd_L_law_692 : decode bb_L_law 692 = .ok (.iadd, 1) := by decide +kernel
theorem dd_L_law_693 : decode bb_L_law 693 = .ok (.iaload, 1) := by decide +kernel
theorem dd_L_law_694 : decode bb_L_law 694 = .ok (.aload_n 0, 1) := by decide +kernel
theorem dd_L_law_695 : decode bb_L_law 695 = .ok (.iload 4, 2) := by decide +kernel
theorem dd_L_law_697 : decode bb_L_law 697 = .ok (.iconst 2, 1) := by decide +kernel
theorem dd_L_law_698 : decode bb_L_law 698 = .ok (.iadd, 1) := by decide +kernel
theorem dd_L_law_699 : decode bb_L_law 699 = .ok (.iaload, 1) := by decide +kernel
theorem dd_L_law_700 : decode bb_L_law 700 = .ok (.aload_n 0, 1) := by decide +kernel
theorem dd_L_law_701 : decode bb_L_law 701 = .ok (.iload 4, 2) := by decide +kernel
theorem dd_L_law_703 : decode bb_L_law 703 = .ok (.iconst 3, 1) := by decide +kernel
theorem dd_L_law_704 : decode bb_L_law 704 = .ok (.iadd, 1) := by decide +kernel
theorem dd_L_law_705 : decode bb_L_law 705 = .ok (.iaload, 1) := by decide +kernel
theorem dd_L_law_706 : decode bb_L_law 706 = .ok (.ifCond .eq 7, 3) := by decide +kernel
theorem dd_L_law_709 : decode bb_L_law 709 = .ok (.iconst 1, 1) := by decide +kernel
theorem dd_L_law_710 : decode bb_L_law 710 = .ok (.goto 4, 3) := by decide +kernel
theorem dd_L_law_713 : decode bb_L_law 713 = .ok (.iconst 0, 1) := by decide +kernel
theorem dd_L_law_714 : decode bb_L_law 714 = .ok (.invokevirtual 125, 3) := by decide +kernel
theorem dd_L_law_717 : decode bb_L_law 717 = .ok (.aload_n 2, 1) := by decide +kernel
theorem dd_L_law_718 : decode bb_L_law 718 = .ok (.invokevirtual 90, 3) := by decide +kernel
theorem dd_L_law_721 : decode bb_L_law 721 = .ok (.iload 5, 2) := by decide +kernel
theorem dd_L_law_723 : decode bb_L_law 723 = .ok (.if_icmp .eq 5, 3) := by decide +kernel
theorem dd_L_law_726 : decode bb_L_law 726 = .ok (.iconst 0, 1) := by decide +kernel
theorem dd_L_law_727 : decode bb_L_law 727 = .ok (.ireturn, 1) := by decide +kernel
theorem dd_L_law_728 : decode bb_L_law 728 = .ok (.goto 726, 3) := by decide +kernel
theorem dd_L_law_731 : decode bb_L_law 731 = .ok (.aload_n 1, 1) := by decide +kernel
theorem dd_L_law_732 : decode bb_L_law 732 = .ok (.aload_n 0, 1) := by decide +kernel
theorem dd_L_law_733 : decode bb_L_law 733 = .ok (.iload 4, 2) := by decide +kernel
theorem dd_L_law_735 : decode bb_L_law 735 = .ok (.iconst 1, 1) := by decide +kernel
theorem dd_L_law_736 : decode bb_L_law 736 = .ok (.iadd, 1) := by decide +kernel
theorem dd_L_law_737 : decode bb_L_law 737 = .ok (.iaload, 1) := by decide +kernel
theorem dd_L_law_738 : decode bb_L_law 738 = .ok (.aload_n 0, 1) := by decide +kernel
theorem dd_L_law_739 : decode bb_L_law 739 = .ok (.iload 4, 2) := by decide +kernel
theorem dd_L_law_741 : decode bb_L_law 741 = .ok (.iconst 2, 1) := by decide +kernel
theorem dd_L_law_742 : decode bb_L_law 742 = .ok (.iadd, 1) := by decide +kernel
theorem dd_L_law_743 : decode bb_L_law 743 = .ok (.iaload, 1) := by decide +kernel
theorem dd_L_law_744 : decode bb_L_law 744 = .ok (.aload_n 3, 1) := by decide +kernel
theorem dd_L_law_745 : decode bb_L_law 745 = .ok (.invokestatic 126, 3) := by decide +kernel
theorem dd_L_law_748 : decode bb_L_law 748 = .ok (.istore 5, 2) := by decide +kernel
theorem dd_L_law_750 : decode bb_L_law 750 = .ok (.aload_n 2, 1) := by decide +kernel
theorem dd_L_law_751 : decode bb_L_law 751 = .ok (.aload_n 0, 1) := by decide +kernel
theorem dd_L_law_752 : decode bb_L_law 752 = .ok (.iload 4, 2) := by decide +kernel
theorem dd_L_law_754 : decode bb_L_law 754 = .ok (.iconst 1, 1) := by decide +kernel
theorem dd_L_law_755 : decode bb_L_law 755 = .ok (.iadd, 1) := by decide +kernel
theorem dd_L_law_756 : decode bb_L_law 756 = .ok (.iaload, 1) := by decide +kernel
theorem dd_L_law_757 : decode bb_L_law 757 = .ok (.aload_n 0, 1) := by decide +kernel
theorem dd_L_law_758 : decode bb_L_law 758 = .ok (.iload 4, 2) := by decide +kernel
theorem dd_L_law_760 : decode bb_L_law 760 = .ok (.iconst 2, 1) := by decide +kernel
theorem dd_L_law_761 : decode bb_L_law 761 = .ok (.iadd, 1) := by decide +kernel
theorem dd_L_law_762 : decode bb_L_law 762 = .ok (.iaload, 1) := by decide +kernel
theorem dd_L_law_763 : decode bb_L_law 763 = .ok (.invokevirtual 129, 3) := by decide +kernel
theorem dd_L_law_766 : decode bb_L_law 766 = .ok (.istore 6, 2) := by decide +kernel
theorem dd_L_law_768 : decode bb_L_law 768 = .ok (.aload_n 2, 1) := by decide +kernel
theorem dd_L_law_769 : decode bb_L_law 769 = .ok (.invokevirtual 90, 3) := by decide +kernel
theorem dd_L_law_772 : decode bb_L_law 772 = .ok (.iload 5, 2) := by decide +kernel
theorem dd_L_law_774 : decode bb_L_law 774 = .ok (.if_icmp .eq 5, 3) := by decide +kernel
theorem dd_L_law_777 : decode bb_L_law 777 = .ok (.iconst 0, 1) := by decide +kernel
theorem dd_L_law_778 : decode bb_L_law 778 = .ok (.ireturn, 1) := by decide +kernel
theorem dd_L_law_779 : decode bb_L_law 779 = .ok (.iload 5, 2) := by decide +kernel
theorem dd_L_law_781 : decode bb_L_law 781 = .ok (.ifCond .ne 22, 3) := by decide +kernel
theorem dd_L_law_784 : decode bb_L_law 784 = .ok (.aload_n 3, 1) := by decide +kernel
theorem dd_L_law_785 : decode bb_L_law 785 = .ok (.iconst 0, 1) := by decide +kernel
theorem dd_L_law_786 : decode bb_L_law 786 = .ok (.laload, 1) := by decide +kernel
theorem dd_L_law_787 : decode bb_L_law 787 = .ok (.iload 6, 2) := by decide +kernel
theorem dd_L_law_789 : decode bb_L_law 789 = .ok (.ifCond .eq 7, 3) := by decide +kernel
theorem dd_L_law_792 : decode bb_L_law 792 = .ok (.lconst 1, 1) := by decide +kernel
theorem dd_L_law_793 : decode bb_L_law 793 = .ok (.goto 4, 3) := by decide +kernel
theorem dd_L_law_796 : decode bb_L_law 796 = .ok (.lconst 0, 1) := by decide +kernel
theorem dd_L_law_797 : decode bb_L_law 797 = .ok (.lcmp, 1) := by decide +kernel
theorem dd_L_law_798 : decode bb_L_law 798 = .ok (.ifCond .eq 5, 3) := by decide +kernel
theorem dd_L_law_801 : decode bb_L_law 801 = .ok (.iconst 0, 1) := by decide +kernel
theorem dd_L_law_802 : decode bb_L_law 802 = .ok (.ireturn, 1) := by decide +kernel
theorem dd_L_law_803 : decode bb_L_law 803 = .ok (.goto 651, 3) := by decide +kernel
theorem dd_L_law_806 : decode bb_L_law 806 = .ok (.aload_n 1, 1) := by decide +kernel
theorem dd_L_law_807 : decode bb_L_law 807 = .ok (.aload_n 0, 1) := by decide +kernel
theorem dd_L_law_808 : decode bb_L_law 808 = .ok (.iload 4, 2) := by decide +kernel
theorem dd_L_law_810 : decode bb_L_law 810 = .ok (.iconst 1, 1) := by decide +kernel
theorem dd_L_law_811 : decode bb_L_law 811 = .ok (.iadd, 1) := by decide +kernel
theorem dd_L_law_812 : decode bb_L_law 812 = .ok (.iaload, 1) := by decide +kernel
theorem dd_L_law_813 : decode bb_L_law 813 = .ok (.aload_n 0, 1) := by decide +kernel
theorem dd_L_law_814 : decode bb_L_law 814 = .ok (.iload 4, 2) := by decide +kernel
theorem dd_L_law_816 : decode bb_L_law 816 = .ok (.iconst 2, 1) := by decide +kernel
theorem dd_L_law_817 : decode bb_L_law 817 = .ok (.iadd, 1) := by decide +kernel
theorem dd_L_law_818 : decode bb_L_law 818 = .ok (.iaload, 1) := by decide +kernel
theorem dd_L_law_819 : decode bb_L_law 819 = .ok (.aload_n 0, 1) := by decide +kernel
theorem dd_L_law_820 : decode bb_L_law 820 = .ok (.iload 4, 2) := by decide +kernel
theorem dd_L_law_822 : decode bb_L_law 822 = .ok (.iconst 3, 1) := by decide +kernel
theorem dd_L_law_823 : decode bb_L_law 823 = .ok (.iadd, 1) := by decide +kernel
theorem dd_L_law_824 : decode bb_L_law 824 = .ok (.iaload, 1) := by decide +kernel
theorem dd_L_law_825 : decode bb_L_law 825 = .ok (.aload_n 0, 1) := by decide +kernel
theorem dd_L_law_826 : decode bb_L_law 826 = .ok (.iload 4, 2) := by decide +kernel
theorem dd_L_law_828 : decode bb_L_law 828 = .ok (.iconst 4, 1) := by decide +kernel
theorem dd_L_law_829 : decode bb_L_law 829 = .ok (.iadd, 1) := by decide +kernel
theorem dd_L_law_830 : decode bb_L_law 830 = .ok (.iaload, 1) := by decide +kernel
theorem dd_L_law_831 : decode bb_L_law 831 = .ok (.aload_n 3, 1) := by decide +kernel
theorem dd_L_law_832 : decode bb_L_law 832 = .ok (.invokestatic 130, 3) := by decide +kernel
theorem dd_L_law_835 : decode bb_L_law 835 = .ok (.istore 5, 2) := by decide +kernel
theorem dd_L_law_837 : decode bb_L_law 837 = .ok (.aload_n 2, 1) := by decide +kernel
theorem dd_L_law_838 : decode bb_L_law 838 = .ok (.aload_n 0, 1) := by decide +kernel
theorem dd_L_law_839 : decode bb_L_law 839 = .ok (.iload 4, 2) := by decide +kernel
theorem dd_L_law_841 : decode bb_L_law 841 = .ok (.iconst 1, 1) := by decide +kernel
theorem dd_L_law_842 : decode bb_L_law 842 = .ok (.iadd, 1) := by decide +kernel
theorem dd_L_law_843 : decode bb_L_law 843 = .ok (.iaload, 1) := by decide +kernel
theorem dd_L_law_844 : decode bb_L_law 844 = .ok (.aload_n 0, 1) := by decide +kernel
theorem dd_L_law_845 : decode bb_L_law 845 = .ok (.iload 4, 2) := by decide +kernel
theorem dd_L_law_847 : decode bb_L_law 847 = .ok (.iconst 2, 1) := by decide +kernel
theorem dd_L_law_848 : decode bb_L_law 848 = .ok (.iadd, 1) := by decide +kernel
theorem dd_L_law_849 : decode bb_L_law 849 = .ok (.iaload, 1) := by decide +kernel
theorem dd_L_law_850 : decode bb_L_law 850 = .ok (.aload_n 0, 1) := by decide +kernel
theorem dd_L_law_851 : decode bb_L_law 851 = .ok (.iload 4, 2) := by decide +kernel
theorem dd_L_law_853 : decode bb_L_law 853 = .ok (.iconst 3, 1) := by decide +kernel
theorem dd_L_law_854 : decode bb_L_law 854 = .ok (.iadd, 1) := by decide +kernel
theorem dd_L_law_855 : decode bb_L_law 855 = .ok (.iaload, 1) := by decide +kernel
theorem dd_L_law_856 : decode bb_L_law 856 = .ok (.aload_n 0, 1) := by decide +kernel
theorem dd_L_law_857 : decode bb_L_law 857 = .ok (.iload 4, 2) := by decide +kernel
theorem dd_L_law_859 : decode bb_L_law 859 = .ok (.iconst 4, 1) := by decide +kernel
theorem dd_L_law_860 : decode bb_L_law 860 = .ok (.iadd, 1) := by decide +kernel
theorem dd_L_law_861 : decode bb_L_law 861 = .ok (.iaload, 1) := by decide +kernel
theorem dd_L_law_862 : decode bb_L_law 862 = .ok (.invokevirtual 132, 3) := by decide +kernel
theorem dd_L_law_865 : decode bb_L_law 865 = .ok (.istore 6, 2) := by decide +kernel
theorem dd_L_law_867 : decode bb_L_law 867 = .ok (.aload_n 2, 1) := by decide +kernel
theorem dd_L_law_868 : decode bb_L_law 868 = .ok (.invokevirtual 90, 3) := by decide +kernel
theorem dd_L_law_871 : decode bb_L_law 871 = .ok (.iload 5, 2) := by decide +kernel
theorem dd_L_law_873 : decode bb_L_law 873 = .ok (.if_icmp .eq 5, 3) := by decide +kernel
theorem dd_L_law_876 : decode bb_L_law 876 = .ok (.iconst 0, 1) := by decide +kernel
theorem dd_L_law_877 : decode bb_L_law 877 = .ok (.ireturn, 1) := by decide +kernel
theorem dd_L_law_878 : decode bb_L_law 878 = .ok (.iload 5, 2) := by decide +kernel
theorem dd_L_law_880 : decode bb_L_law 880 = .ok (.ifCond .ne 15, 3) := by decide +kernel
theorem dd_L_law_883 : decode bb_L_law 883 = .ok (.aload_n 3, 1) := by decide +kernel
theorem dd_L_law_884 : decode bb_L_law 884 = .ok (.iconst 0, 1) := by decide +kernel
theorem dd_L_law_885 : decode bb_L_law 885 = .ok (.laload, 1) := by decide +kernel
theorem dd_L_law_886 : decode bb_L_law 886 = .ok (.iload 6, 2) := by decide +kernel
theorem dd_L_law_888 : decode bb_L_law 888 = .ok (.i2l, 1) := by decide +kernel
theorem dd_L_law_889 : decode bb_L_law 889 = .ok (.lcmp, 1) := by decide +kernel
theorem dd_L_law_890 : decode bb_L_law 890 = .ok (.ifCond .eq 5, 3) := by decide +kernel
theorem dd_L_law_893 : decode bb_L_law 893 = .ok (.iconst 0, 1) := by decide +kernel
theorem dd_L_law_894 : decode bb_L_law 894 = .ok (.ireturn, 1) := by decide +kernel
theorem dd_L_law_895 : decode bb_L_law 895 = .ok (.goto 559, 3) := by decide +kernel
theorem dd_L_law_898 : decode bb_L_law 898 = .ok (.aload_n 1, 1) := by decide +kernel
theorem dd_L_law_899 : decode bb_L_law 899 = .ok (.aload_n 0, 1) := by decide +kernel
theorem dd_L_law_900 : decode bb_L_law 900 = .ok (.iload 4, 2) := by decide +kernel
theorem dd_L_law_902 : decode bb_L_law 902 = .ok (.iconst 1, 1) := by decide +kernel
theorem dd_L_law_903 : decode bb_L_law 903 = .ok (.iadd, 1) := by decide +kernel
theorem dd_L_law_904 : decode bb_L_law 904 = .ok (.iaload, 1) := by decide +kernel
theorem dd_L_law_905 : decode bb_L_law 905 = .ok (.aload_n 0, 1) := by decide +kernel
theorem dd_L_law_906 : decode bb_L_law 906 = .ok (.iload 4, 2) := by decide +kernel
theorem dd_L_law_908 : decode bb_L_law 908 = .ok (.iconst 2, 1) := by decide +kernel
theorem dd_L_law_909 : decode bb_L_law 909 = .ok (.iadd, 1) := by decide +kernel
theorem dd_L_law_910 : decode bb_L_law 910 = .ok (.iaload, 1) := by decide +kernel
theorem dd_L_law_911 : decode bb_L_law 911 = .ok (.aload_n 0, 1) := by decide +kernel
theorem dd_L_law_912 : decode bb_L_law 912 = .ok (.iload 4, 2) := by decide +kernel
theorem dd_L_law_914 : decode bb_L_law 914 = .ok (.iconst 3, 1) := by decide +kernel
theorem dd_L_law_915 : decode bb_L_law 915 = .ok (.iadd, 1) := by decide +kernel
theorem dd_L_law_916 : decode bb_L_law 916 = .ok (.iaload, 1) := by decide +kernel
theorem dd_L_law_917 : decode bb_L_law 917 = .ok (.aload_n 3, 1) := by decide +kernel
theorem dd_L_law_918 : decode bb_L_law 918 = .ok (.invokestatic 133, 3) := by decide +kernel
theorem dd_L_law_921 : decode bb_L_law 921 = .ok (.istore 5, 2) := by decide +kernel
theorem dd_L_law_923 : decode bb_L_law 923 = .ok (.aload_n 2, 1) := by decide +kernel
theorem dd_L_law_924 : decode bb_L_law 924 = .ok (.aload_n 0, 1) := by decide +kernel
theorem dd_L_law_925 : decode bb_L_law 925 = .ok (.iload 4, 2) := by decide +kernel
theorem dd_L_law_927 : decode bb_L_law 927 = .ok (.iconst 1, 1) := by decide +kernel
theorem dd_L_law_928 : decode bb_L_law 928 = .ok (.iadd, 1) := by decide +kernel
theorem dd_L_law_929 : decode bb_L_law 929 = .ok (.iaload, 1) := by decide +kernel
theorem dd_L_law_930 : decode bb_L_law 930 = .ok (.aload_n 0, 1) := by decide +kernel
theorem dd_L_law_931 : decode bb_L_law 931 = .ok (.iload 4, 2) := by decide +kernel
theorem dd_L_law_933 : decode bb_L_law 933 = .ok (.iconst 2, 1) := by decide +kernel
theorem dd_L_law_934 : decode bb_L_law 934 = .ok (.iadd, 1) := by decide +kernel
theorem dd_L_law_935 : decode bb_L_law 935 = .ok (.iaload, 1) := by decide +kernel
theorem dd_L_law_936 : decode bb_L_law 936 = .ok (.aload_n 0, 1) := by decide +kernel
theorem dd_L_law_937 : decode bb_L_law 937 = .ok (.iload 4, 2) := by decide +kernel
theorem dd_L_law_939 : decode bb_L_law 939 = .ok (.iconst 3, 1) := by decide +kernel
theorem dd_L_law_940 : decode bb_L_law 940 = .ok (.iadd, 1) := by decide +kernel
theorem dd_L_law_941 : decode bb_L_law 941 = .ok (.iaload, 1) := by decide +kernel
theorem dd_L_law_942 : decode bb_L_law 942 = .ok (.invokevirtual 135, 3) := by decide +kernel
theorem dd_L_law_945 : decode bb_L_law 945 = .ok (.istore 6, 2) := by decide +kernel
theorem dd_L_law_947 : decode bb_L_law 947 = .ok (.aload_n 2, 1) := by decide +kernel
theorem dd_L_law_948 : decode bb_L_law 948 = .ok (.invokevirtual 90, 3) := by decide +kernel
theorem dd_L_law_951 : decode bb_L_law 951 = .ok (.iload 5, 2) := by decide +kernel
theorem dd_L_law_953 : decode bb_L_law 953 = .ok (.if_icmp .eq 5, 3) := by decide +kernel
theorem dd_L_law_956 : decode bb_L_law 956 = .ok (.iconst 0, 1) := by decide +kernel
theorem dd_L_law_957 : decode bb_L_law 957 = .ok (.ireturn, 1) := by decide +kernel
theorem dd_L_law_958 : decode bb_L_law 958 = .ok (.iload 5, 2) := by decide +kernel
theorem dd_L_law_960 : decode bb_L_law 960 = .ok (.ifCond .ne 15, 3) := by decide +kernel
theorem dd_L_law_963 : decode bb_L_law 963 = .ok (.aload_n 3, 1) := by decide +kernel
theorem dd_L_law_964 : decode bb_L_law 964 = .ok (.iconst 0, 1) := by decide +kernel
theorem dd_L_law_965 : decode bb_L_law 965 = .ok (.laload, 1) := by decide +kernel
theorem dd_L_law_966 : decode bb_L_law 966 = .ok (.iload 6, 2) := by decide +kernel
theorem dd_L_law_968 : decode bb_L_law 968 = .ok (.i2l, 1) := by decide +kernel
theorem dd_L_law_969 : decode bb_L_law 969 = .ok (.lcmp, 1) := by decide +kernel
theorem dd_L_law_970 : decode bb_L_law 970 = .ok (.ifCond .eq 5, 3) := by decide +kernel
theorem dd_L_law_973 : decode bb_L_law 973 = .ok (.iconst 0, 1) := by decide +kernel
theorem dd_L_law_974 : decode bb_L_law 974 = .ok (.ireturn, 1) := by decide +kernel
theorem dd_L_law_975 : decode bb_L_law 975 = .ok (.goto 479, 3) := by decide +kernel
theorem dd_L_law_978 : decode bb_L_law 978 = .ok (.aload_n 1, 1) := by decide +kernel
theorem dd_L_law_979 : decode bb_L_law 979 = .ok (.aload_n 0, 1) := by decide +kernel
theorem dd_L_law_980 : decode bb_L_law 980 = .ok (.iload 4, 2) := by decide +kernel
theorem dd_L_law_982 : decode bb_L_law 982 = .ok (.iconst 1, 1) := by decide +kernel
theorem dd_L_law_983 : decode bb_L_law 983 = .ok (.iadd, 1) := by decide +kernel
theorem dd_L_law_984 : decode bb_L_law 984 = .ok (.iaload, 1) := by decide +kernel
theorem dd_L_law_985 : decode bb_L_law 985 = .ok (.aload_n 0, 1) := by decide +kernel
theorem dd_L_law_986 : decode bb_L_law 986 = .ok (.iload 4, 2) := by decide +kernel
theorem dd_L_law_988 : decode bb_L_law 988 = .ok (.iconst 2, 1) := by decide +kernel
theorem dd_L_law_989 : decode bb_L_law 989 = .ok (.iadd, 1) := by decide +kernel
theorem dd_L_law_990 : decode bb_L_law 990 = .ok (.iaload, 1) := by decide +kernel
theorem dd_L_law_991 : decode bb_L_law 991 = .ok (.aload_n 0, 1) := by decide +kernel
theorem dd_L_law_992 : decode bb_L_law 992 = .ok (.iload 4, 2) := by decide +kernel
theorem dd_L_law_994 : decode bb_L_law 994 = .ok (.iconst 3, 1) := by decide +kernel
theorem dd_L_law_995 : decode bb_L_law 995 = .ok (.iadd, 1) := by decide +kernel
theorem dd_L_law_996 : decode bb_L_law 996 = .ok (.iaload, 1) := by decide +kernel
theorem dd_L_law_997 : decode bb_L_law 997 = .ok (.aload_n 0, 1) := by decide +kernel
theorem dd_L_law_998 : decode bb_L_law 998 = .ok (.iload 4, 2) := by decide +kernel
theorem dd_L_law_1000 : decode bb_L_law 1000 = .ok (.iconst 4, 1) := by decide +kernel
theorem dd_L_law_1001 : decode bb_L_law 1001 = .ok (.iadd, 1) := by decide +kernel
theorem dd_L_law_1002 : decode bb_L_law 1002 = .ok (.iaload, 1) := by decide +kernel
theorem dd_L_law_1003 : decode bb_L_law 1003 = .ok (.aload_n 0, 1) := by decide +kernel
theorem dd_L_law_1004 : decode bb_L_law 1004 = .ok (.iload 4, 2) := by decide +kernel
theorem dd_L_law_1006 : decode bb_L_law 1006 = .ok (.iconst 5, 1) := by decide +kernel
theorem dd_L_law_1007 : decode bb_L_law 1007 = .ok (.iadd, 1) := by decide +kernel
theorem dd_L_law_1008 : decode bb_L_law 1008 = .ok (.iaload, 1) := by decide +kernel
theorem dd_L_law_1009 : decode bb_L_law 1009 = .ok (.aload_n 3, 1) := by decide +kernel
theorem dd_L_law_1010 : decode bb_L_law 1010 = .ok (.invokestatic 136, 3) := by decide +kernel
theorem dd_L_law_1013 : decode bb_L_law 1013 = .ok (.istore 5, 2) := by decide +kernel
theorem dd_L_law_1015 : decode bb_L_law 1015 = .ok (.aload_n 2, 1) := by decide +kernel
theorem dd_L_law_1016 : decode bb_L_law 1016 = .ok (.aload_n 0, 1) := by decide +kernel
theorem dd_L_law_1017 : decode bb_L_law 1017 = .ok (.iload 4, 2) := by decide +kernel
theorem dd_L_law_1019 : decode bb_L_law 1019 = .ok (.iconst 1, 1) := by decide +kernel
theorem dd_L_law_1020 : decode bb_L_law 1020 = .ok (.iadd, 1) := by decide +kernel
theorem dd_L_law_1021 : decode bb_L_law 1021 = .ok (.iaload, 1) := by decide +kernel
theorem dd_L_law_1022 : decode bb_L_law 1022 = .ok (.aload_n 0, 1) := by decide +kernel
theorem dd_L_law_1023 : decode bb_L_law 1023 = .ok (.iload 4, 2) := by decide +kernel
theorem dd_L_law_1025 : decode bb_L_law 1025 = .ok (.iconst 2, 1) := by decide +kernel
theorem dd_L_law_1026 : decode bb_L_law 1026 = .ok (.iadd, 1) := by decide +kernel
theorem dd_L_law_1027 : decode bb_L_law 1027 = .ok (.iaload, 1) := by decide +kernel
theorem dd_L_law_1028 : decode bb_L_law 1028 = .ok (.aload_n 0, 1) := by decide +kernel
theorem dd_L_law_1029 : decode bb_L_law 1029 = .ok (.iload 4, 2) := by decide +kernel
theorem dd_L_law_1031 : decode bb_L_law 1031 = .ok (.iconst 3, 1) := by decide +kernel
theorem dd_L_law_1032 : decode bb_L_law 1032 = .ok (.iadd, 1) := by decide +kernel
theorem dd_L_law_1033 : decode bb_L_law 1033 = .ok (.iaload, 1) := by decide +kernel
theorem dd_L_law_1034 : decode bb_L_law 1034 = .ok (.aload_n 0, 1) := by decide +kernel
theorem dd_L_law_1035 : decode bb_L_law 1035 = .ok (.iload 4, 2) := by decide +kernel
theorem dd_L_law_1037 : decode bb_L_law 1037 = .ok (.iconst 4, 1) := by decide +kernel
theorem dd_L_law_1038 : decode bb_L_law 1038 = .ok (.iadd, 1) := by decide +kernel
theorem dd_L_law_1039 : decode bb_L_law 1039 = .ok (.iaload, 1) := by decide +kernel
theorem dd_L_law_1040 : decode bb_L_law 1040 = .ok (.aload_n 0, 1) := by decide +kernel
theorem dd_L_law_1041 : decode bb_L_law 1041 = .ok (.iload 4, 2) := by decide +kernel
theorem dd_L_law_1043 : decode bb_L_law 1043 = .ok (.iconst 5, 1) := by decide +kernel
theorem dd_L_law_1044 : decode bb_L_law 1044 = .ok (.iadd, 1) := by decide +kernel
theorem dd_L_law_1045 : decode bb_L_law 1045 = .ok (.iaload, 1) := by decide +kernel
theorem dd_L_law_1046 : decode bb_L_law 1046 = .ok (.invokevirtual 138, 3) := by decide +kernel
theorem dd_L_law_1049 : decode bb_L_law 1049 = .ok (.istore 6, 2) := by decide +kernel
theorem dd_L_law_1051 : decode bb_L_law 1051 = .ok (.aload_n 2, 1) := by decide +kernel
theorem dd_L_law_1052 : decode bb_L_law 1052 = .ok (.invokevirtual 90, 3) := by decide +kernel
theorem dd_L_law_1055 : decode bb_L_law 1055 = .ok (.iload 5, 2) := by decide +kernel
theorem dd_L_law_1057 : decode bb_L_law 1057 = .ok (.if_icmp .eq 5, 3) := by decide +kernel
theorem dd_L_law_1060 : decode bb_L_law 1060 = .ok (.iconst 0, 1) := by decide +kernel
theorem dd_L_law_1061 : decode bb_L_law 1061 = .ok (.ireturn, 1) := by decide +kernel
theorem dd_L_law_1062 : decode bb_L_law 1062 = .ok (.iload 5, 2) := by decide +kernel
theorem dd_L_law_1064 : decode bb_L_law 1064 = .ok (.ifCond .ne 15, 3) := by decide +kernel
theorem dd_L_law_1067 : decode bb_L_law 1067 = .ok (.aload_n 3, 1) := by decide +kernel
theorem dd_L_law_1068 : decode bb_L_law 1068 = .ok (.iconst 0, 1) := by decide +kernel
theorem dd_L_law_1069 : decode bb_L_law 1069 = .ok (.laload, 1) := by decide +kernel
theorem dd_L_law_1070 : decode bb_L_law 1070 = .ok (.iload 6, 2) := by decide +kernel
theorem dd_L_law_1072 : decode bb_L_law 1072 = .ok (.i2l, 1) := by decide +kernel
theorem dd_L_law_1073 : decode bb_L_law 1073 = .ok (.lcmp, 1) := by decide +kernel
theorem dd_L_law_1074 : decode bb_L_law 1074 = .ok (.ifCond .eq 5, 3) := by decide +kernel
theorem dd_L_law_1077 : decode bb_L_law 1077 = .ok (.iconst 0, 1) := by decide +kernel
theorem dd_L_law_1078 : decode bb_L_law 1078 = .ok (.ireturn, 1) := by decide +kernel
theorem dd_L_law_1079 : decode bb_L_law 1079 = .ok (.goto 375, 3) := by decide +kernel
theorem dd_L_law_1082 : decode bb_L_law 1082 = .ok (.aload_n 1, 1) := by decide +kernel
theorem dd_L_law_1083 : decode bb_L_law 1083 = .ok (.aload_n 0, 1) := by decide +kernel
theorem dd_L_law_1084 : decode bb_L_law 1084 = .ok (.iload 4, 2) := by decide +kernel
theorem dd_L_law_1086 : decode bb_L_law 1086 = .ok (.iconst 1, 1) := by decide +kernel
theorem dd_L_law_1087 : decode bb_L_law 1087 = .ok (.iadd, 1) := by decide +kernel
theorem dd_L_law_1088 : decode bb_L_law 1088 = .ok (.iaload, 1) := by decide +kernel
theorem dd_L_law_1089 : decode bb_L_law 1089 = .ok (.i2l, 1) := by decide +kernel
theorem dd_L_law_1090 : decode bb_L_law 1090 = .ok (.bipush 32, 2) := by decide +kernel
theorem dd_L_law_1092 : decode bb_L_law 1092 = .ok (.lshl, 1) := by decide +kernel
theorem dd_L_law_1093 : decode bb_L_law 1093 = .ok (.aload_n 0, 1) := by decide +kernel
theorem dd_L_law_1094 : decode bb_L_law 1094 = .ok (.iload 4, 2) := by decide +kernel
theorem dd_L_law_1096 : decode bb_L_law 1096 = .ok (.iconst 2, 1) := by decide +kernel
theorem dd_L_law_1097 : decode bb_L_law 1097 = .ok (.iadd, 1) := by decide +kernel
theorem dd_L_law_1098 : decode bb_L_law 1098 = .ok (.iaload, 1) := by decide +kernel
theorem dd_L_law_1099 : decode bb_L_law 1099 = .ok (.i2l, 1) := by decide +kernel
theorem dd_L_law_1100 : decode bb_L_law 1100 = .ok (.ldc2_w 139, 3) := by decide +kernel
theorem dd_L_law_1103 : decode bb_L_law 1103 = .ok (.land, 1) := by decide +kernel
theorem dd_L_law_1104 : decode bb_L_law 1104 = .ok (.lor, 1) := by decide +kernel
theorem dd_L_law_1105 : decode bb_L_law 1105 = .ok (.aload_n 0, 1) := by decide +kernel
theorem dd_L_law_1106 : decode bb_L_law 1106 = .ok (.iload 4, 2) := by decide +kernel
theorem dd_L_law_1108 : decode bb_L_law 1108 = .ok (.iconst 3, 1) := by decide +kernel
theorem dd_L_law_1109 : decode bb_L_law 1109 = .ok (.iadd, 1) := by decide +kernel
theorem dd_L_law_1110 : decode bb_L_law 1110 = .ok (.iaload, 1) := by decide +kernel
theorem dd_L_law_1111 : decode bb_L_law 1111 = .ok (.aload_n 3, 1) := by decide +kernel
theorem dd_L_law_1112 : decode bb_L_law 1112 = .ok (.invokestatic 141, 3) := by decide +kernel
theorem dd_L_law_1115 : decode bb_L_law 1115 = .ok (.istore 5, 2) := by decide +kernel
theorem dd_L_law_1117 : decode bb_L_law 1117 = .ok (.aload_n 2, 1) := by decide +kernel
theorem dd_L_law_1118 : decode bb_L_law 1118 = .ok (.aload_n 0, 1) := by decide +kernel
theorem dd_L_law_1119 : decode bb_L_law 1119 = .ok (.iload 4, 2) := by decide +kernel
theorem dd_L_law_1121 : decode bb_L_law 1121 = .ok (.iconst 1, 1) := by decide +kernel
theorem dd_L_law_1122 : decode bb_L_law 1122 = .ok (.iadd, 1) := by decide +kernel
theorem dd_L_law_1123 : decode bb_L_law 1123 = .ok (.iaload, 1) := by decide +kernel
theorem dd_L_law_1124 : decode bb_L_law 1124 = .ok (.i2l, 1) := by decide +kernel
theorem dd_L_law_1125 : decode bb_L_law 1125 = .ok (.bipush 32, 2) := by decide +kernel
theorem dd_L_law_1127 : decode bb_L_law 1127 = .ok (.lshl, 1) := by decide +kernel
theorem dd_L_law_1128 : decode bb_L_law 1128 = .ok (.aload_n 0, 1) := by decide +kernel
theorem dd_L_law_1129 : decode bb_L_law 1129 = .ok (.iload 4, 2) := by decide +kernel
theorem dd_L_law_1131 : decode bb_L_law 1131 = .ok (.iconst 2, 1) := by decide +kernel
theorem dd_L_law_1132 : decode bb_L_law 1132 = .ok (.iadd, 1) := by decide +kernel
theorem dd_L_law_1133 : decode bb_L_law 1133 = .ok (.iaload, 1) := by decide +kernel
theorem dd_L_law_1134 : decode bb_L_law 1134 = .ok (.i2l, 1) := by decide +kernel
theorem dd_L_law_1135 : decode bb_L_law 1135 = .ok (.ldc2_w 139, 3) := by decide +kernel
theorem dd_L_law_1138 : decode bb_L_law 1138 = .ok (.land, 1) := by decide +kernel
theorem dd_L_law_1139 : decode bb_L_law 1139 = .ok (.lor, 1) := by decide +kernel
theorem dd_L_law_1140 : decode bb_L_law 1140 = .ok (.aload_n 0, 1) := by decide +kernel
theorem dd_L_law_1141 : decode bb_L_law 1141 = .ok (.iload 4, 2) := by decide +kernel
theorem dd_L_law_1143 : decode bb_L_law 1143 = .ok (.iconst 3, 1) := by decide +kernel
theorem dd_L_law_1144 : decode bb_L_law 1144 = .ok (.iadd, 1) := by decide +kernel
theorem dd_L_law_1145 : decode bb_L_law 1145 = .ok (.iaload, 1) := by decide +kernel
theorem dd_L_law_1146 : decode bb_L_law 1146 = .ok (.invokevirtual 144, 3) := by decide +kernel
theorem dd_L_law_1149 : decode bb_L_law 1149 = .ok (.istore 6, 2) := by decide +kernel
theorem dd_L_law_1151 : decode bb_L_law 1151 = .ok (.aload_n 2, 1) := by decide +kernel
theorem dd_L_law_1152 : decode bb_L_law 1152 = .ok (.invokevirtual 90, 3) := by decide +kernel
theorem dd_L_law_1155 : decode bb_L_law 1155 = .ok (.iload 5, 2) := by decide +kernel
theorem dd_L_law_1157 : decode bb_L_law 1157 = .ok (.if_icmp .eq 5, 3) := by decide +kernel
theorem dd_L_law_1160 : decode bb_L_law 1160 = .ok (.iconst 0, 1) := by decide +kernel
theorem dd_L_law_1161 : decode bb_L_law 1161 = .ok (.ireturn, 1) := by decide +kernel
theorem dd_L_law_1162 : decode bb_L_law 1162 = .ok (.iload 5, 2) := by decide +kernel
theorem dd_L_law_1164 : decode bb_L_law 1164 = .ok (.ifCond .ne 15, 3) := by decide +kernel
theorem dd_L_law_1167 : decode bb_L_law 1167 = .ok (.aload_n 3, 1) := by decide +kernel
theorem dd_L_law_1168 : decode bb_L_law 1168 = .ok (.iconst 0, 1) := by decide +kernel
theorem dd_L_law_1169 : decode bb_L_law 1169 = .ok (.laload, 1) := by decide +kernel
theorem dd_L_law_1170 : decode bb_L_law 1170 = .ok (.iload 6, 2) := by decide +kernel
theorem dd_L_law_1172 : decode bb_L_law 1172 = .ok (.i2l, 1) := by decide +kernel
theorem dd_L_law_1173 : decode bb_L_law 1173 = .ok (.lcmp, 1) := by decide +kernel
theorem dd_L_law_1174 : decode bb_L_law 1174 = .ok (.ifCond .eq 5, 3) := by decide +kernel
theorem dd_L_law_1177 : decode bb_L_law 1177 = .ok (.iconst 0, 1) := by decide +kernel
theorem dd_L_law_1178 : decode bb_L_law 1178 = .ok (.ireturn, 1) := by decide +kernel
theorem dd_L_law_1179 : decode bb_L_law 1179 = .ok (.goto 275, 3) := by decide +kernel
theorem dd_L_law_1182 : decode bb_L_law 1182 = .ok (.aload_n 1, 1) := by decide +kernel
theorem dd_L_law_1183 : decode bb_L_law 1183 = .ok (.aload_n 0, 1) := by decide +kernel
theorem dd_L_law_1184 : decode bb_L_law 1184 = .ok (.iload 4, 2) := by decide +kernel
theorem dd_L_law_1186 : decode bb_L_law 1186 = .ok (.iconst 1, 1) := by decide +kernel
theorem dd_L_law_1187 : decode bb_L_law 1187 = .ok (.iadd, 1) := by decide +kernel
theorem dd_L_law_1188 : decode bb_L_law 1188 = .ok (.iaload, 1) := by decide +kernel
theorem dd_L_law_1189 : decode bb_L_law 1189 = .ok (.aload_n 3, 1) := by decide +kernel
theorem dd_L_law_1190 : decode bb_L_law 1190 = .ok (.invokestatic 145, 3) := by decide +kernel
theorem dd_L_law_1193 : decode bb_L_law 1193 = .ok (.istore 5, 2) := by decide +kernel
theorem dd_L_law_1195 : decode bb_L_law 1195 = .ok (.aload_n 2, 1) := by decide +kernel
theorem dd_L_law_1196 : decode bb_L_law 1196 = .ok (.aload_n 0, 1) := by decide +kernel
theorem dd_L_law_1197 : decode bb_L_law 1197 = .ok (.iload 4, 2) := by decide +kernel
theorem dd_L_law_1199 : decode bb_L_law 1199 = .ok (.iconst 1, 1) := by decide +kernel
theorem dd_L_law_1200 : decode bb_L_law 1200 = .ok (.iadd, 1) := by decide +kernel
theorem dd_L_law_1201 : decode bb_L_law 1201 = .ok (.iaload, 1) := by decide +kernel
theorem dd_L_law_1202 : decode bb_L_law 1202 = .ok (.invokevirtual 147, 3) := by decide +kernel
theorem dd_L_law_1205 : decode bb_L_law 1205 = .ok (.istore 6, 2) := by decide +kernel
theorem dd_L_law_1207 : decode bb_L_law 1207 = .ok (.aload_n 2, 1) := by decide +kernel
theorem dd_L_law_1208 : decode bb_L_law 1208 = .ok (.invokevirtual 90, 3) := by decide +kernel
theorem dd_L_law_1211 : decode bb_L_law 1211 = .ok (.iload 5, 2) := by decide +kernel
theorem dd_L_law_1213 : decode bb_L_law 1213 = .ok (.if_icmp .eq 5, 3) := by decide +kernel
theorem dd_L_law_1216 : decode bb_L_law 1216 = .ok (.iconst 0, 1) := by decide +kernel
theorem dd_L_law_1217 : decode bb_L_law 1217 = .ok (.ireturn, 1) := by decide +kernel
theorem dd_L_law_1218 : decode bb_L_law 1218 = .ok (.iload 5, 2) := by decide +kernel
theorem dd_L_law_1220 : decode bb_L_law 1220 = .ok (.ifCond .ne 15, 3) := by decide +kernel
theorem dd_L_law_1223 : decode bb_L_law 1223 = .ok (.aload_n 3, 1) := by decide +kernel
theorem dd_L_law_1224 : decode bb_L_law 1224 = .ok (.iconst 0, 1) := by decide +kernel
theorem dd_L_law_1225 : decode bb_L_law 1225 = .ok (.laload, 1) := by decide +kernel
theorem dd_L_law_1226 : decode bb_L_law 1226 = .ok (.iload 6, 2) := by decide +kernel
theorem dd_L_law_1228 : decode bb_L_law 1228 = .ok (.i2l, 1) := by decide +kernel
theorem dd_L_law_1229 : decode bb_L_law 1229 = .ok (.lcmp, 1) := by decide +kernel
theorem dd_L_law_1230 : decode bb_L_law 1230 = .ok (.ifCond .eq 5, 3) := by decide +kernel
theorem dd_L_law_1233 : decode bb_L_law 1233 = .ok (.iconst 0, 1) := by decide +kernel
theorem dd_L_law_1234 : decode bb_L_law 1234 = .ok (.ireturn, 1) := by decide +kernel
theorem dd_L_law_1235 : decode bb_L_law 1235 = .ok (.goto 219, 3) := by decide +kernel
theorem dd_L_law_1238 : decode bb_L_law 1238 = .ok (.aload_n 1, 1) := by decide +kernel
theorem dd_L_law_1239 : decode bb_L_law 1239 = .ok (.aload_n 0, 1) := by decide +kernel
theorem dd_L_law_1240 : decode bb_L_law 1240 = .ok (.iload 4, 2) := by decide +kernel
theorem dd_L_law_1242 : decode bb_L_law 1242 = .ok (.iconst 1, 1) := by decide +kernel
theorem dd_L_law_1243 : decode bb_L_law 1243 = .ok (.iadd, 1) := by decide +kernel
theorem dd_L_law_1244 : decode bb_L_law 1244 = .ok (.iaload, 1) := by decide +kernel
theorem dd_L_law_1245 : decode bb_L_law 1245 = .ok (.aload_n 0, 1) := by decide +kernel
theorem dd_L_law_1246 : decode bb_L_law 1246 = .ok (.iload 4, 2) := by decide +kernel
theorem dd_L_law_1248 : decode bb_L_law 1248 = .ok (.iconst 2, 1) := by decide +kernel
theorem dd_L_law_1249 : decode bb_L_law 1249 = .ok (.iadd, 1) := by decide +kernel
theorem dd_L_law_1250 : decode bb_L_law 1250 = .ok (.iaload, 1) := by decide +kernel
theorem dd_L_law_1251 : decode bb_L_law 1251 = .ok (.aload_n 0, 1) := by decide +kernel
theorem dd_L_law_1252 : decode bb_L_law 1252 = .ok (.iload 4, 2) := by decide +kernel
theorem dd_L_law_1254 : decode bb_L_law 1254 = .ok (.iconst 3, 1) := by decide +kernel
theorem dd_L_law_1255 : decode bb_L_law 1255 = .ok (.iadd, 1) := by decide +kernel
theorem dd_L_law_1256 : decode bb_L_law 1256 = .ok (.iaload, 1) := by decide +kernel
theorem dd_L_law_1257 : decode bb_L_law 1257 = .ok (.aload_n 3, 1) := by decide +kernel
theorem dd_L_law_1258 : decode bb_L_law 1258 = .ok (.invokestatic 148, 3) := by decide +kernel
theorem dd_L_law_1261 : decode bb_L_law 1261 = .ok (.istore 5, 2) := by decide +kernel
theorem dd_L_law_1263 : decode bb_L_law 1263 = .ok (.aload_n 2, 1) := by decide +kernel
theorem dd_L_law_1264 : decode bb_L_law 1264 = .ok (.aload_n 0, 1) := by decide +kernel
theorem dd_L_law_1265 : decode bb_L_law 1265 = .ok (.iload 4, 2) := by decide +kernel
theorem dd_L_law_1267 : decode bb_L_law 1267 = .ok (.iconst 1, 1) := by decide +kernel
theorem dd_L_law_1268 : decode bb_L_law 1268 = .ok (.iadd, 1) := by decide +kernel
theorem dd_L_law_1269 : decode bb_L_law 1269 = .ok (.iaload, 1) := by decide +kernel
theorem dd_L_law_1270 : decode bb_L_law 1270 = .ok (.aload_n 0, 1) := by decide +kernel
theorem dd_L_law_1271 : decode bb_L_law 1271 = .ok (.iload 4, 2) := by decide +kernel
theorem dd_L_law_1273 : decode bb_L_law 1273 = .ok (.iconst 2, 1) := by decide +kernel
theorem dd_L_law_1274 : decode bb_L_law 1274 = .ok (.iadd, 1) := by decide +kernel
theorem dd_L_law_1275 : decode bb_L_law 1275 = .ok (.iaload, 1) := by decide +kernel
theorem dd_L_law_1276 : decode bb_L_law 1276 = .ok (.aload_n 0, 1) := by decide +kernel
theorem dd_L_law_1277 : decode bb_L_law 1277 = .ok (.iload 4, 2) := by decide +kernel
theorem dd_L_law_1279 : decode bb_L_law 1279 = .ok (.iconst 3, 1) := by decide +kernel
theorem dd_L_law_1280 : decode bb_L_law 1280 = .ok (.iadd, 1) := by decide +kernel
theorem dd_L_law_1281 : decode bb_L_law 1281 = .ok (.iaload, 1) := by decide +kernel
theorem dd_L_law_1282 : decode bb_L_law 1282 = .ok (.invokevirtual 150, 3) := by decide +kernel
theorem dd_L_law_1285 : decode bb_L_law 1285 = .ok (.istore 6, 2) := by decide +kernel
theorem dd_L_law_1287 : decode bb_L_law 1287 = .ok (.aload_n 2, 1) := by decide +kernel
theorem dd_L_law_1288 : decode bb_L_law 1288 = .ok (.invokevirtual 90, 3) := by decide +kernel
theorem dd_L_law_1291 : decode bb_L_law 1291 = .ok (.iload 5, 2) := by decide +kernel
theorem dd_L_law_1293 : decode bb_L_law 1293 = .ok (.if_icmp .eq 5, 3) := by decide +kernel
theorem dd_L_law_1296 : decode bb_L_law 1296 = .ok (.iconst 0, 1) := by decide +kernel
theorem dd_L_law_1297 : decode bb_L_law 1297 = .ok (.ireturn, 1) := by decide +kernel
theorem dd_L_law_1298 : decode bb_L_law 1298 = .ok (.iload 5, 2) := by decide +kernel
theorem dd_L_law_1300 : decode bb_L_law 1300 = .ok (.ifCond .ne 15, 3) := by decide +kernel
theorem dd_L_law_1303 : decode bb_L_law 1303 = .ok (.aload_n 3, 1) := by decide +kernel
theorem dd_L_law_1304 : decode bb_L_law 1304 = .ok (.iconst 0, 1) := by decide +kernel
theorem dd_L_law_1305 : decode bb_L_law 1305 = .ok (.laload, 1) := by decide +kernel
theorem dd_L_law_1306 : decode bb_L_law 1306 = .ok (.iload 6, 2) := by decide +kernel
theorem dd_L_law_1308 : decode bb_L_law 1308 = .ok (.i2l, 1) := by decide +kernel
theorem dd_L_law_1309 : decode bb_L_law 1309 = .ok (.lcmp, 1) := by decide +kernel
theorem dd_L_law_1310 : decode bb_L_law 1310 = .ok (.ifCond .eq 5, 3) := by decide +kernel
theorem dd_L_law_1313 : decode bb_L_law 1313 = .ok (.iconst 0, 1) := by decide +kernel
theorem dd_L_law_1314 : decode bb_L_law 1314 = .ok (.ireturn, 1) := by decide +kernel
theorem dd_L_law_1315 : decode bb_L_law 1315 = .ok (.goto 139, 3) := by decide +kernel
theorem dd_L_law_1318 : decode bb_L_law 1318 = .ok (.aload_n 1, 1) := by decide +kernel
theorem dd_L_law_1319 : decode bb_L_law 1319 = .ok (.aload_n 0, 1) := by decide +kernel
theorem dd_L_law_1320 : decode bb_L_law 1320 = .ok (.iload 4, 2) := by decide +kernel
theorem dd_L_law_1322 : decode bb_L_law 1322 = .ok (.iconst 1, 1) := by decide +kernel
theorem dd_L_law_1323 : decode bb_L_law 1323 = .ok (.iadd, 1) := by decide +kernel
theorem dd_L_law_1324 : decode bb_L_law 1324 = .ok (.iaload, 1) := by decide +kernel
theorem dd_L_law_1325 : decode bb_L_law 1325 = .ok (.aload_n 0, 1) := by decide +kernel
theorem dd_L_law_1326 : decode bb_L_law 1326 = .ok (.iload 4, 2) := by decide +kernel
theorem dd_L_law_1328 : decode bb_L_law 1328 = .ok (.iconst 2, 1) := by decide +kernel
theorem dd_L_law_1329 : decode bb_L_law 1329 = .ok (.iadd, 1) := by decide +kernel
theorem dd_L_law_1330 : decode bb_L_law 1330 = .ok (.iaload, 1) := by decide +kernel
theorem dd_L_law_1331 : decode bb_L_law 1331 = .ok (.aload_n 3, 1) := by decide +kernel
theorem dd_L_law_1332 : decode bb_L_law 1332 = .ok (.invokestatic 151, 3) := by decide +kernel
theorem dd_L_law_1335 : decode bb_L_law 1335 = .ok (.istore 5, 2) := by decide +kernel
theorem dd_L_law_1337 : decode bb_L_law 1337 = .ok (.aload_n 2, 1) := by decide +kernel
theorem dd_L_law_1338 : decode bb_L_law 1338 = .ok (.aload_n 0, 1) := by decide +kernel
theorem dd_L_law_1339 : decode bb_L_law 1339 = .ok (.iload 4, 2) := by decide +kernel
theorem dd_L_law_1341 : decode bb_L_law 1341 = .ok (.iconst 1, 1) := by decide +kernel
theorem dd_L_law_1342 : decode bb_L_law 1342 = .ok (.iadd, 1) := by decide +kernel
theorem dd_L_law_1343 : decode bb_L_law 1343 = .ok (.iaload, 1) := by decide +kernel
theorem dd_L_law_1344 : decode bb_L_law 1344 = .ok (.aload_n 0, 1) := by decide +kernel
theorem dd_L_law_1345 : decode bb_L_law 1345 = .ok (.iload 4, 2) := by decide +kernel
theorem dd_L_law_1347 : decode bb_L_law 1347 = .ok (.iconst 2, 1) := by decide +kernel
theorem dd_L_law_1348 : decode bb_L_law 1348 = .ok (.iadd, 1) := by decide +kernel
theorem dd_L_law_1349 : decode bb_L_law 1349 = .ok (.iaload, 1) := by decide +kernel
theorem dd_L_law_1350 : decode bb_L_law 1350 = .ok (.invokevirtual 153, 3) := by decide +kernel
theorem dd_L_law_1353 : decode bb_L_law 1353 = .ok (.istore 6, 2) := by decide +kernel
theorem dd_L_law_1355 : decode bb_L_law 1355 = .ok (.aload_n 2, 1) := by decide +kernel
theorem dd_L_law_1356 : decode bb_L_law 1356 = .ok (.invokevirtual 90, 3) := by decide +kernel
theorem dd_L_law_1359 : decode bb_L_law 1359 = .ok (.iload 5, 2) := by decide +kernel
theorem dd_L_law_1361 : decode bb_L_law 1361 = .ok (.if_icmp .eq 5, 3) := by decide +kernel
theorem dd_L_law_1364 : decode bb_L_law 1364 = .ok (.iconst 0, 1) := by decide +kernel
theorem dd_L_law_1365 : decode bb_L_law 1365 = .ok (.ireturn, 1) := by decide +kernel
theorem dd_L_law_1366 : decode bb_L_law 1366 = .ok (.iload 5, 2) := by decide +kernel
theorem dd_L_law_1368 : decode bb_L_law 1368 = .ok (.ifCond .ne 15, 3) := by decide +kernel
theorem dd_L_law_1371 : decode bb_L_law 1371 = .ok (.aload_n 3, 1) := by decide +kernel
theorem dd_L_law_1372 : decode bb_L_law 1372 = .ok (.iconst 0, 1) := by decide +kernel
theorem dd_L_law_1373 : decode bb_L_law 1373 = .ok (.laload, 1) := by decide +kernel
theorem dd_L_law_1374 : decode bb_L_law 1374 = .ok (.iload 6, 2) := by decide +kernel
theorem dd_L_law_1376 : decode bb_L_law 1376 = .ok (.i2l, 1) := by decide +kernel
theorem dd_L_law_1377 : decode bb_L_law 1377 = .ok (.lcmp, 1) := by decide +kernel
theorem dd_L_law_1378 : decode bb_L_law 1378 = .ok (.ifCond .eq 5, 3) := by decide +kernel
theorem dd_L_law_1381 : decode bb_L_law 1381 = .ok (.iconst 0, 1) := by decide +kernel
theorem dd_L_law_1382 : decode bb_L_law 1382 = .ok (.ireturn, 1) := by decide +kernel
theorem dd_L_law_1383 : decode bb_L_law 1383 = .ok (.goto 71, 3) := by decide +kernel
theorem dd_L_law_1386 : decode bb_L_law 1386 = .ok (.aload_n 1, 1) := by decide +kernel
theorem dd_L_law_1387 : decode bb_L_law 1387 = .ok (.aload_n 0, 1) := by decide +kernel
theorem dd_L_law_1388 : decode bb_L_law 1388 = .ok (.iload 4, 2) := by decide +kernel
theorem dd_L_law_1390 : decode bb_L_law 1390 = .ok (.iconst 1, 1) := by decide +kernel
theorem dd_L_law_1391 : decode bb_L_law 1391 = .ok (.iadd, 1) := by decide +kernel
theorem dd_L_law_1392 : decode bb_L_law 1392 = .ok (.iaload, 1) := by decide +kernel
theorem dd_L_law_1393 : decode bb_L_law 1393 = .ok (.aload_n 0, 1) := by decide +kernel
theorem dd_L_law_1394 : decode bb_L_law 1394 = .ok (.iload 4, 2) := by decide +kernel
theorem dd_L_law_1396 : decode bb_L_law 1396 = .ok (.iconst 2, 1) := by decide +kernel
theorem dd_L_law_1397 : decode bb_L_law 1397 = .ok (.iadd, 1) := by decide +kernel
theorem dd_L_law_1398 : decode bb_L_law 1398 = .ok (.iaload, 1) := by decide +kernel
theorem dd_L_law_1399 : decode bb_L_law 1399 = .ok (.aload_n 3, 1) := by decide +kernel
theorem dd_L_law_1400 : decode bb_L_law 1400 = .ok (.invokestatic 154, 3) := by decide +kernel
theorem dd_L_law_1403 : decode bb_L_law 1403 = .ok (.istore 5, 2) := by decide +kernel
theorem dd_L_law_1405 : decode bb_L_law 1405 = .ok (.aload_n 2, 1) := by decide +kernel
theorem dd_L_law_1406 : decode bb_L_law 1406 = .ok (.aload_n 0, 1) := by decide +kernel
theorem dd_L_law_1407 : decode bb_L_law 1407 = .ok (.iload 4, 2) := by decide +kernel
theorem dd_L_law_1409 : decode bb_L_law 1409 = .ok (.iconst 1, 1) := by decide +kernel
theorem dd_L_law_1410 : decode bb_L_law 1410 = .ok (.iadd, 1) := by decide +kernel
theorem dd_L_law_1411 : decode bb_L_law 1411 = .ok (.iaload, 1) := by decide +kernel
theorem dd_L_law_1412 : decode bb_L_law 1412 = .ok (.aload_n 0, 1) := by decide +kernel
theorem dd_L_law_1413 : decode bb_L_law 1413 = .ok (.iload 4, 2) := by decide +kernel
theorem dd_L_law_1415 : decode bb_L_law 1415 = .ok (.iconst 2, 1) := by decide +kernel
theorem dd_L_law_1416 : decode bb_L_law 1416 = .ok (.iadd, 1) := by decide +kernel
theorem dd_L_law_1417 : decode bb_L_law 1417 = .ok (.iaload, 1) := by decide +kernel
theorem dd_L_law_1418 : decode bb_L_law 1418 = .ok (.invokevirtual 156, 3) := by decide +kernel
theorem dd_L_law_1421 : decode bb_L_law 1421 = .ok (.istore 6, 2) := by decide +kernel
theorem dd_L_law_1423 : decode bb_L_law 1423 = .ok (.aload_n 2, 1) := by decide +kernel
theorem dd_L_law_1424 : decode bb_L_law 1424 = .ok (.invokevirtual 90, 3) := by decide +kernel
theorem dd_L_law_1427 : decode bb_L_law 1427 = .ok (.iload 5, 2) := by decide +kernel
theorem dd_L_law_1429 : decode bb_L_law 1429 = .ok (.if_icmp .eq 5, 3) := by decide +kernel
theorem dd_L_law_1432 : decode bb_L_law 1432 = .ok (.iconst 0, 1) := by decide +kernel
theorem dd_L_law_1433 : decode bb_L_law 1433 = .ok (.ireturn, 1) := by decide +kernel
theorem dd_L_law_1434 : decode bb_L_law 1434 = .ok (.iload 5, 2) := by decide +kernel
theorem dd_L_law_1436 : decode bb_L_law 1436 = .ok (.ifCond .ne 15, 3) := by decide +kernel
theorem dd_L_law_1439 : decode bb_L_law 1439 = .ok (.aload_n 3, 1) := by decide +kernel
theorem dd_L_law_1440 : decode bb_L_law 1440 = .ok (.iconst 0, 1) := by decide +kernel
theorem dd_L_law_1441 : decode bb_L_law 1441 = .ok (.laload, 1) := by decide +kernel
theorem dd_L_law_1442 : decode bb_L_law 1442 = .ok (.iload 6, 2) := by decide +kernel
theorem dd_L_law_1444 : decode bb_L_law 1444 = .ok (.i2l, 1) := by decide +kernel
theorem dd_L_law_1445 : decode bb_L_law 1445 = .ok (.lcmp, 1) := by decide +kernel
theorem dd_L_law_1446 : decode bb_L_law 1446 = .ok (.ifCond .eq 5, 3) := by decide +kernel
theorem dd_L_law_1449 : decode bb_L_law 1449 = .ok (.iconst 0, 1) := by decide +kernel
theorem dd_L_law_1450 : decode bb_L_law 1450 = .ok (.ireturn, 1) := by decide +kernel
theorem dd_L_law_1451 : decode bb_L_law 1451 = .ok (.goto 3, 3) := by decide +kernel
theorem dd_L_law_1454 : decode bb_L_law 1454 = .ok (.iinc 4 6, 3) := by decide +kernel
theorem dd_L_law_1457 : decode bb_L_law 1457 = .ok (.goto (-1434), 3) := by decide +kernel
theorem dd_L_law_1460 : decode bb_L_law 1460 = .ok (.iconst 1, 1) := by decide +kernel
theorem dd_L_law_1461 : decode bb_L_law 1461 = .ok (.ireturn, 1) := by decide +kernel
end
section
/-! the world as a map from addresses to cells -/
abbrev pm_T : Type := Nat → Option va_E
def pm_up (P : pm_T) (a : Nat) (e : va_E) : pm_T := fun q => if q = a then some e else P q
theorem pm_s {P : pm_T} {a : Nat} {e : va_E} : pm_up P a e a = some e := if_pos rfl
theorem pm_n {P : pm_T} {a b : Nat} {e : va_E} (h : b ≠ a) : pm_up P a e b = P b := if_neg h
theorem pm_ne {P : pm_T} {a b : Nat} {x y : va_E} (h1 : P a = some x) (h2 : P b = some y) (h : x ≠ y) : a ≠ b := by
  intro q
  subst q
  exact h (Option.some.inj (h1.symm.trans h2))
theorem pm_nx {P : pm_T} {a q : Nat} {x : va_E} (h1 : P a = some x) (h2 : P q = none) : a ≠ q := by
  intro h
  subst h
  rw [h2] at h1
  cases h1
theorem pm_uu {P : pm_T} {a : Nat} {x y : va_E} : pm_up (pm_up P a x) a y = pm_up P a y := by
  funext q
  by_cases h : q = a
  · rw [h, pm_s, pm_s]
  · rw [pm_n h, pm_n h, pm_n h]
theorem pm_uc {P : pm_T} {a b : Nat} {x y : va_E} (h : a ≠ b) : pm_up (pm_up P a x) b y = pm_up (pm_up P b y) a x := by
  funext q
  by_cases h1 : q = a
  · have h2 : q ≠ b := by rw [h1]; exact h
    rw [pm_n h2, h1, pm_s, pm_s]
  · by_cases h2 : q = b
    · rw [pm_n h1, h2, pm_s, pm_s]
    · rw [pm_n h1, pm_n h2, pm_n h2, pm_n h1]
theorem pm_id {P : pm_T} {a : Nat} {x : va_E} (h : P a = some x) : pm_up P a x = P := by
  funext q
  by_cases h1 : q = a
  · rw [h1, pm_s, h]
  · rw [pm_n h1]
def pm_A (z : Nat) : Nat → Prop := fun q => z ≤ q
def pm_H (z : Nat) (D : va_G) (cl : List vw_C) (P : pm_T) (H : Heap) : Prop := ∀ (a : Nat) (e : va_E), P a = some e → va_at D cl (a, e) H ∧ z ≤ a
def pm_W (z : Nat) (D : va_G) (cl : List vw_C) (P : pm_T) (H0 H : Heap) (locs : List Loc) : Prop := z ≤ H0.size ∧ pm_H z D cl P H ∧ va_S (pm_A z) H0 H locs
def pm_l (P : pm_T) (n : Nat) : va_W := (List.range n).filterMap (fun a => (P a).map (fun e => (a, e)))
theorem pm_l_mem {P : pm_T} {n a : Nat} {e : va_E} : (a, e) ∈ pm_l P n ↔ a < n ∧ P a = some e := by
  unfold pm_l
  rw [List.mem_filterMap]
  constructor
  · rintro ⟨b, hb, h⟩
    rw [Option.map_eq_some_iff] at h
    obtain ⟨x, hx, hp⟩ := h
    cases hp
    exact ⟨List.mem_range.mp hb, hx⟩
  · rintro ⟨h1, h2⟩
    exact ⟨a, List.mem_range.mpr h1, by rw [h2]; rfl⟩
theorem pm_l_inj (P : pm_T) (n i j : Nat) (p q : Nat × va_E) (h1 : (pm_l P n)[i]? = some p) (h2 : (pm_l P n)[j]? = some q) (h : p.1 = q.1) : i = j := by
  have hp : List.Pairwise (fun (p q : Nat × va_E) => p.1 < q.1) (pm_l P n) := by
    unfold pm_l
    refine List.Pairwise.filterMap _ ?_ List.pairwise_lt_range
    intro a a' hlt b hb b' hb'
    have g1 := Option.map_eq_some_iff.mp hb
    have g2 := Option.map_eq_some_iff.mp hb'
    obtain ⟨x, -, rfl⟩ := g1
    obtain ⟨y, -, rfl⟩ := g2
    exact hlt
  obtain ⟨i1, e1⟩ := List.getElem?_eq_some_iff.mp h1
  obtain ⟨j1, e2⟩ := List.getElem?_eq_some_iff.mp h2
  rcases Nat.lt_trichotomy i j with g | g | g
  · have h3 := List.pairwise_iff_getElem.mp hp i j i1 j1 g
    rw [e1, e2] at h3
    omega
  · exact g
  · have h3 := List.pairwise_iff_getElem.mp hp j i j1 i1 g
    rw [e1, e2] at h3
    omega
theorem pm_W.conv {z : Nat} {D : va_G} {cl : List vw_C} {P : pm_T} {H0 H : Heap} {locs : List Loc} (hw : pm_W z D cl P H0 H locs) : ∃ ws : va_W, va_P D cl ws H ∧ va_D (pm_A z) ws ∧ (∀ a e, P a = some e → ∃ k : Nat, ws[k]? = some (a, e)) ∧
    (∀ (k a : Nat) (e e' : va_E) (H1 : Heap) (locs1 : List Loc), ws[k]? = some (a, e) → va_P D cl (ws.set k (a, e')) H1 → va_S (pm_A z) H0 H1 locs1 → pm_W z D cl (pm_up P a e') H0 H1 locs1) ∧
    (∀ (q : Nat) (e' : va_E) (H1 : Heap) (locs1 : List Loc), va_P D cl (ws ++ [(q, e')]) H1 → va_D (pm_A z) (ws ++ [(q, e')]) → va_S (pm_A z) H0 H1 locs1 → P q = none ∧ pm_W z D cl (pm_up P q e') H0 H1 locs1) := by
  obtain ⟨hz, hH, hS⟩ := hw
  have hin : ∀ a e, P a = some e → ∃ k : Nat, (pm_l P H.size)[k]? = some (a, e) := fun a e h =>
    List.getElem?_of_mem (pm_l_mem.mpr ⟨va_at.lt (hH a e h).1, h⟩)
  refine ⟨pm_l P H.size, ?_, ?_, hin, ?_, ?_⟩
  · intro k q hk
    obtain ⟨a, e⟩ := q
    exact (hH a e (pm_l_mem.mp (List.mem_of_getElem? hk)).2).1
  · refine ⟨pm_l_inj P H.size, fun k q hk => ?_⟩
    obtain ⟨a, e⟩ := q
    exact (hH a e (pm_l_mem.mp (List.mem_of_getElem? hk)).2).2
  · intro k a e e' H1 locs1 hk hP hS1
    have hlt : k < (pm_l P H.size).length := (List.getElem?_eq_some_iff.mp hk).1
    refine ⟨hz, fun b f hb => ?_, hS1⟩
    by_cases hba : b = a
    · subst hba
      rw [pm_s] at hb
      cases hb
      exact ⟨hP k _ (by rw [List.getElem?_set_self hlt]), (hH b e (pm_l_mem.mp (List.mem_of_getElem? hk)).2).2⟩
    · rw [pm_n hba] at hb
      obtain ⟨j, hj⟩ := hin b f hb
      have hjk : k ≠ j := by
        intro h
        subst h
        rw [hk] at hj
        cases hj
        exact hba rfl
      exact ⟨hP j _ (by rw [List.getElem?_set_ne hjk]; exact hj), (hH b f hb).2⟩
  · intro q e' H1 locs1 hP hD hS1
    have hlen : (pm_l P H.size ++ [(q, e')])[(pm_l P H.size).length]? = some (q, e') := by
      rw [List.getElem?_append_right (Nat.le_refl _), Nat.sub_self]
      rfl
    have hl : ∀ (j : Nat) (x : Nat × va_E), (pm_l P H.size)[j]? = some x → (pm_l P H.size ++ [(q, e')])[j]? = some x ∧ j < (pm_l P H.size).length := fun j x hj => by
      have h1 : j < (pm_l P H.size).length := (List.getElem?_eq_some_iff.mp hj).1
      exact ⟨by rw [List.getElem?_append_left h1]; exact hj, h1⟩
    have hno : P q = none := by
      cases hq : P q with
      | none => rfl
      | some x =>
        obtain ⟨j, hj⟩ := hin q x hq
        obtain ⟨g1, g2⟩ := hl j _ hj
        have := hD.1 j _ _ _ g1 hlen rfl
        omega
    refine ⟨hno, hz, fun b f hb => ?_, hS1⟩
    by_cases hba : b = q
    · subst hba
      rw [pm_s] at hb
      cases hb
      exact ⟨hP _ _ hlen, hD.2 _ _ hlen⟩
    · rw [pm_n hba] at hb
      obtain ⟨j, hj⟩ := hin b f hb
      exact ⟨hP j _ (hl j _ hj).1, (hH b f hb).2⟩
section PMR
variable {p : Program} {l : Launch} {e : Env} {R : Room} {s : State} {m : MethodId} {args : Array Value} {below : List Frame} {meth : Method} {c : Code} {H : Heap} {locs : List Loc} {cells slots : Nat} {Q : State → Prop}
variable {cc : ByteArray} {pc : Nat} {ls : Array Slot} {rest : List Value} {D : va_G} {cl : List vw_C} {z : Nat} {P : pm_T} {a : Nat} {tys : List (ClassId × FieldType)} {H0 : Heap}
theorem pm_get (hexec : p.tables.exec = Jvm.exec) (hb : c.code = cc) {own ref C : String} {T : u_T} {N ci index : Nat} {Ts : List Cond} (hts : ∀ w ∈ Ts, w.before args s = true) (hin : ∀ w ∈ u_ws C T N, w ∈ Ts) (hown : s.vm.findClass own = some m.cls) (hK : va_K D cl tys s) (hw : pm_W z D cl P H0 H locs) {fs : List Value} (he : P a = some (.inr (ci, fs))) (hc : cl[ci]? = some (C, T, N)) (k : Nat) (hk : k < N) (hlink : (Cond.fieldLink own index ref (T k).2.1 (T k).2.2.1).before args s = true) (hsame : ∀ x, s.fieldFound? (T k).1 (T k).2.1 (T k).2.2.1 = some x → s.fieldFound? ref (T k).2.1 (T k).2.2.1 = some x) {v : Value} (hv : fs[k]? = some v) (hdg : decode cc pc = .ok (.getfield index, 3))
    (kk : W p l e R s m args below meth c H locs cells slots Q (F0 m (pc + 3) ls (v :: rest))) : W p l e R s m args below meth c H locs cells slots Q (F0 m pc ls (.ref a :: rest)) := by
  obtain ⟨ws, hP, hD, hf, -, -⟩ := hw.conv
  obtain ⟨q0, hq⟩ := hf _ _ he
  exact va_get hexec hb hts hin hown hK hP q0 hq hc k hk hlink hsame hv hdg kk
theorem pm_put (hexec : p.tables.exec = Jvm.exec) (hb : c.code = cc) {own ref C : String} {T : u_T} {N ci index : Nat} {Ts : List Cond} (hts : ∀ w ∈ Ts, w.before args s = true) (hin : ∀ w ∈ u_ws C T N, w ∈ Ts) (ty0 : Nat → FieldType) (hty : ∀ k, k < N → parseFieldDescriptor (T k).2.2.1 = some (ty0 k)) (hnm : ∀ a, a < N → ∀ b, b < N → a ≠ b → (T a).2.1 ≠ (T b).2.1) (hown : s.vm.findClass own = some m.cls) (hK : va_K D cl tys s) (hw : pm_W z D cl P H0 H locs) {fs : List Value} (he : P a = some (.inr (ci, fs))) (hc : cl[ci]? = some (C, T, N)) (k : Nat) (hk : k < N) (hlink : (Cond.fieldLink own index ref (T k).2.1 (T k).2.2.1).before args s = true) (hsame : ∀ x, s.fieldFound? (T k).1 (T k).2.1 (T k).2.2.1 = some x → s.fieldFound? ref (T k).2.1 (T k).2.2.1 = some x) (hfin : (T k).2.2.2 = false) {ty : FieldType} {v : Value} (hd : parseFieldDescriptor (T k).2.2.1 = some ty) (hn : narrow ty v = v) (hfit : fits ty v = true) (hl : k < fs.length)
    (hdg : decode cc pc = .ok (.putfield index, 3)) (kk : ∀ (H1 : Heap) (locs1 : List Loc), pm_W z D cl (pm_up P a (.inr (ci, fs.set k v))) H0 H1 locs1 → W p l e R s m args below meth c H1 locs1 cells slots Q (F0 m (pc + 3) ls rest)) : W p l e R s m args below meth c H locs cells slots Q (F0 m pc ls (v :: .ref a :: rest)) := by
  obtain ⟨ws, hP, hD, hf, hs, -⟩ := hw.conv
  obtain ⟨q0, hq⟩ := hf _ _ he
  exact va_put hexec hb hts hin ty0 hty hnm hown hK hP hD hw.2.2 q0 hq hc k hk hlink hsame hfin hd hn hfit hl hdg (fun H1 locs1 hP1 _ hS1 => kk H1 locs1 (hs q0 a _ _ H1 locs1 hq hP1 hS1))
theorem pm_putF (hexec : p.tables.exec = Jvm.exec) (hb : c.code = cc) {own ref C : String} {T : u_T} {N ci index : Nat} {Ts : List Cond} (hts : ∀ w ∈ Ts, w.before args s = true) (hin : ∀ w ∈ u_ws C T N, w ∈ Ts) (ty0 : Nat → FieldType) (hty : ∀ k, k < N → parseFieldDescriptor (T k).2.2.1 = some (ty0 k)) (hnm : ∀ a, a < N → ∀ b, b < N → a ≠ b → (T a).2.1 ≠ (T b).2.1) (hown : s.vm.findClass own = some m.cls) (hK : va_K D cl tys s) (hw : pm_W z D cl P H0 H locs) {fs : List Value} (he : P a = some (.inr (ci, fs))) (hc : cl[ci]? = some (C, T, N)) (k : Nat) (hk : k < N) (hlink : (Cond.fieldLink own index ref (T k).2.1 (T k).2.2.1).before args s = true) (hsame : ∀ x, s.fieldFound? (T k).1 (T k).2.1 (T k).2.2.1 = some x → s.fieldFound? ref (T k).2.1 (T k).2.2.1 = some x) (hfin : (T k).2.2.2 = true) (hin2 : meth.name = "<init>") (hdecl : (T k).1 = own) {ty : FieldType} {v : Value} (hd : parseFieldDescriptor (T k).2.2.1 = some ty) (hn : narrow ty v = v) (hfit : fits ty v = true) (hl : k < fs.length)
    (hdg : decode cc pc = .ok (.putfield index, 3)) (kk : ∀ (H1 : Heap) (locs1 : List Loc), pm_W z D cl (pm_up P a (.inr (ci, fs.set k v))) H0 H1 locs1 → W p l e R s m args below meth c H1 locs1 cells slots Q (F0 m (pc + 3) ls rest)) : W p l e R s m args below meth c H locs cells slots Q (F0 m pc ls (v :: .ref a :: rest)) := by
  obtain ⟨ws, hP, hD, hf, hs, -⟩ := hw.conv
  obtain ⟨q0, hq⟩ := hf _ _ he
  exact va_putF hexec hb hts hin ty0 hty hnm hown hK hP hD hw.2.2 q0 hq hc k hk hlink hsame hfin hin2 hdecl hd hn hfit hl hdg (fun H1 locs1 hP1 _ hS1 => kk H1 locs1 (hs q0 a _ _ H1 locs1 hq hP1 hS1))
theorem pm_iald (hexec : p.tables.exec = Jvm.exec) (hb : c.code = cc) (hK : va_K D cl tys s) (hw : pm_W z D cl P H0 H locs) (t0 : Nat) {cA : ClassId} {n : Nat} {f : Nat → Int32} (he : P a = some (.inl (cA, n, .inl f))) (ht : tys[t0]? = some (cA, .int)) {i : Int32} (hin : vp_in i n) (hdg : decode cc pc = .ok (.iaload, 1))
    (kk : W p l e R s m args below meth c H locs cells slots Q (F0 m (pc + 1) ls (.int (f i.toNatClampNeg) :: rest))) : W p l e R s m args below meth c H locs cells slots Q (F0 m pc ls (.int i :: .ref a :: rest)) := by
  obtain ⟨ws, hP, hD, hf, -, -⟩ := hw.conv
  obtain ⟨q0, hq⟩ := hf _ _ he
  exact va_iald hexec hb hK hP q0 t0 hq ht hin hdg kk
theorem pm_iast (hexec : p.tables.exec = Jvm.exec) (hb : c.code = cc) (hK : va_K D cl tys s) (hw : pm_W z D cl P H0 H locs) (t0 : Nat) {cA : ClassId} {n : Nat} {f : Nat → Int32} (he : P a = some (.inl (cA, n, .inl f))) (ht : tys[t0]? = some (cA, .int)) {i : Int32} {x : Int32} (hin : vp_in i n) (hdg : decode cc pc = .ok (.iastore, 1))
    (kk : ∀ (H1 : Heap) (locs1 : List Loc), pm_W z D cl (pm_up P a (.inl (cA, n, .inl (upd f i.toNatClampNeg x)))) H0 H1 locs1 → W p l e R s m args below meth c H1 locs1 cells slots Q (F0 m (pc + 1) ls rest)) : W p l e R s m args below meth c H locs cells slots Q (F0 m pc ls (.int x :: .int i :: .ref a :: rest)) := by
  obtain ⟨ws, hP, hD, hf, hs, -⟩ := hw.conv
  obtain ⟨q0, hq⟩ := hf _ _ he
  exact va_iast hexec hb hK hP hD hw.2.2 q0 t0 hq ht hin hdg (fun H1 locs1 hP1 _ hS1 => kk H1 locs1 (hs q0 a _ _ H1 locs1 hq hP1 hS1))
theorem pm_lald (hexec : p.tables.exec = Jvm.exec) (hb : c.code = cc) (hK : va_K D cl tys s) (hw : pm_W z D cl P H0 H locs) (t0 : Nat) {cA : ClassId} {n : Nat} {f : Nat → Int64} (he : P a = some (.inl (cA, n, .inr (.inl f)))) (ht : tys[t0]? = some (cA, .long)) {i : Int32} (hin : vp_in i n) (hdg : decode cc pc = .ok (.laload, 1))
    (kk : W p l e R s m args below meth c H locs cells slots Q (F0 m (pc + 1) ls (.long (f i.toNatClampNeg) :: rest))) : W p l e R s m args below meth c H locs cells slots Q (F0 m pc ls (.int i :: .ref a :: rest)) := by
  obtain ⟨ws, hP, hD, hf, -, -⟩ := hw.conv
  obtain ⟨q0, hq⟩ := hf _ _ he
  exact va_lald hexec hb hK hP q0 t0 hq ht hin hdg kk
theorem pm_last (hexec : p.tables.exec = Jvm.exec) (hb : c.code = cc) (hK : va_K D cl tys s) (hw : pm_W z D cl P H0 H locs) (t0 : Nat) {cA : ClassId} {n : Nat} {f : Nat → Int64} (he : P a = some (.inl (cA, n, .inr (.inl f)))) (ht : tys[t0]? = some (cA, .long)) {i : Int32} {x : Int64} (hin : vp_in i n) (hdg : decode cc pc = .ok (.lastore, 1))
    (kk : ∀ (H1 : Heap) (locs1 : List Loc), pm_W z D cl (pm_up P a (.inl (cA, n, .inr (.inl (vp_updL f i.toNatClampNeg x))))) H0 H1 locs1 → W p l e R s m args below meth c H1 locs1 cells slots Q (F0 m (pc + 1) ls rest)) : W p l e R s m args below meth c H locs cells slots Q (F0 m pc ls (.long x :: .int i :: .ref a :: rest)) := by
  obtain ⟨ws, hP, hD, hf, hs, -⟩ := hw.conv
  obtain ⟨q0, hq⟩ := hf _ _ he
  exact va_last hexec hb hK hP hD hw.2.2 q0 t0 hq ht hin hdg (fun H1 locs1 hP1 _ hS1 => kk H1 locs1 (hs q0 a _ _ H1 locs1 hq hP1 hS1))
theorem pm_aald (hexec : p.tables.exec = Jvm.exec) (hb : c.code = cc) (hK : va_K D cl tys s) (hw : pm_W z D cl P H0 H locs) (t0 : Nat) {cA : ClassId} {C : String} {n : Nat} {f : Nat → Option Nat} (he : P a = some (.inl (cA, n, .inr (.inr (.inr (.inr f)))))) (ht : tys[t0]? = some (cA, .object C)) {i : Int32} (hin : vp_in i n) (hdg : decode cc pc = .ok (.aaload, 1))
    (kk : W p l e R s m args below meth c H locs cells slots Q (F0 m (pc + 1) ls (va_rf (f i.toNatClampNeg) :: rest))) : W p l e R s m args below meth c H locs cells slots Q (F0 m pc ls (.int i :: .ref a :: rest)) := by
  obtain ⟨ws, hP, hD, hf, -, -⟩ := hw.conv
  obtain ⟨q0, hq⟩ := hf _ _ he
  exact va_aldq hexec hb hK hP q0 t0 hq ht hin hdg kk
theorem pm_aast (hexec : p.tables.exec = Jvm.exec) (hb : c.code = cc) (hK : va_K D cl tys s) (hw : pm_W z D cl P H0 H locs) (t0 ci : Nat) {cA : ClassId} {r : vw_C} {n v : Nat} {vs : List Value} {f : Nat → Option Nat} (he : P a = some (.inl (cA, n, .inr (.inr (.inr (.inr f)))))) (ht : tys[t0]? = some (cA, .object r.1)) (hv : P v = some (.inr (ci, vs))) (hc : cl[ci]? = some r) {i : Int32} (hin : vp_in i n) (hdg : decode cc pc = .ok (.aastore, 1))
    (kk : ∀ (H1 : Heap) (locs1 : List Loc), pm_W z D cl (pm_up P a (.inl (cA, n, .inr (.inr (.inr (.inr (va_up f i.toNatClampNeg (some v)))))))) H0 H1 locs1 → W p l e R s m args below meth c H1 locs1 cells slots Q (F0 m (pc + 1) ls rest)) : W p l e R s m args below meth c H locs cells slots Q (F0 m pc ls (.ref v :: .int i :: .ref a :: rest)) := by
  obtain ⟨ws, hP, hD, hf, hs, -⟩ := hw.conv
  obtain ⟨q0, hq⟩ := hf _ _ he
  obtain ⟨qk, hk⟩ := hf _ _ hv
  exact va_astq hexec hb hK hP hD hw.2.2 q0 t0 qk ci hq ht hk hc hin hdg (fun H1 locs1 hP1 _ hS1 => kk H1 locs1 (hs q0 a _ _ H1 locs1 hq hP1 hS1))
theorem pm_aastN (hexec : p.tables.exec = Jvm.exec) (hb : c.code = cc) (hK : va_K D cl tys s) (hw : pm_W z D cl P H0 H locs) (t0 : Nat) {cA : ClassId} {C : String} {n : Nat} {f : Nat → Option Nat} (he : P a = some (.inl (cA, n, .inr (.inr (.inr (.inr f)))))) (ht : tys[t0]? = some (cA, .object C)) {i : Int32} (hin : vp_in i n) (hdg : decode cc pc = .ok (.aastore, 1))
    (kk : ∀ (H1 : Heap) (locs1 : List Loc), pm_W z D cl (pm_up P a (.inl (cA, n, .inr (.inr (.inr (.inr (va_up f i.toNatClampNeg none))))))) H0 H1 locs1 → W p l e R s m args below meth c H1 locs1 cells slots Q (F0 m (pc + 1) ls rest)) : W p l e R s m args below meth c H locs cells slots Q (F0 m pc ls (.null :: .int i :: .ref a :: rest)) := by
  obtain ⟨ws, hP, hD, hf, hs, -⟩ := hw.conv
  obtain ⟨q0, hq⟩ := hf _ _ he
  exact va_astqN hexec hb hK hP hD hw.2.2 q0 t0 hq ht hin hdg (fun H1 locs1 hP1 _ hS1 => kk H1 locs1 (hs q0 a _ _ H1 locs1 hq hP1 hS1))
theorem pm_alen (hexec : p.tables.exec = Jvm.exec) (hb : c.code = cc) (hK : va_K D cl tys s) (hw : pm_W z D cl P H0 H locs) (t0 : Nat) {cA : ClassId} {x : vp_A} (he : P a = some (.inl (cA, x))) {ty : FieldType} (ht : tys[t0]? = some (cA, ty)) {v : Int32} (hv : Int32.ofNat x.1 = v) (hdg : decode cc pc = .ok (.arraylength, 1))
    (kk : W p l e R s m args below meth c H locs cells slots Q (F0 m (pc + 1) ls (.int v :: rest))) : W p l e R s m args below meth c H locs cells slots Q (F0 m pc ls (.ref a :: rest)) := by
  obtain ⟨ws, hP, hD, hf, -, -⟩ := hw.conv
  obtain ⟨q0, hq⟩ := hf _ _ he
  exact va_alen hexec hb hK hP q0 t0 hq ht hv hdg kk
theorem pm_new (hexec : p.tables.exec = Jvm.exec) (hb : c.code = cc) {own C : String} {T : u_T} {N ci index : Nat} {Ts : List Cond} (hts : ∀ w ∈ Ts, w.before args s = true) (hin : ∀ w ∈ u_ws C T N, w ∈ Ts) (ty : Nat → FieldType) (hty : ∀ k, k < N → parseFieldDescriptor (T k).2.2.1 = some (ty k)) (hown : s.vm.findClass own = some m.cls) (hcl : (Cond.classLink own index C).before args s = true) (hinst : (Cond.instantiable C N).before args s = true) (hini : (Cond.initialized C).before args s = true)
    (hK : va_K D cl tys s) (hw : pm_W z D cl P H0 H locs) (hc : cl[ci]? = some (C, T, N)) {fs : List Value} (hfs : ∀ j, j < N → defaultValue (ty j) = vp_V fs j) (hcells : cells + 1 ≤ R.cells) (hslots : slots + N ≤ R.slots) (hdg : decode cc pc = .ok (.new index, 3))
    (kk : ∀ (q : Nat) (H1 : Heap), P q = none → pm_W z D cl (pm_up P q (.inr (ci, fs))) H0 H1 locs →
      W p l e R s m args below meth c H1 locs (cells + 1) (slots + N) Q (F0 m (pc + 3) ls (.ref q :: rest))) : W p l e R s m args below meth c H locs cells slots Q (F0 m pc ls rest) := by
  obtain ⟨ws, hP, hD, -, -, hn⟩ := hw.conv
  exact va_new hexec hb hts hin ty hty hown hcl hinst hini hK hP hD hw.2.2 (fun q h => Nat.le_trans hw.1 h) hc hfs hcells hslots hdg (fun q H1 hP1 hD1 hS1 => kk q H1 (hn q _ H1 locs hP1 hD1 hS1).1 (hn q _ H1 locs hP1 hD1 hS1).2)
theorem pm_cls {U : State} {cA cB : ClassId} {ty : FieldType} (h1 : va_RA U cA ty) (h2 : va_RA U cB ty) : cA = cB := by
  cases ty with
  | object C =>
    obtain ⟨_, _, _, _, _, g1⟩ := h1
    obtain ⟨_, _, _, _, _, g2⟩ := h2
    exact Option.some.inj (g1.symm.trans g2)
  | _ => exact Option.some.inj (h1.symm.trans h2)
theorem pm_newa (hexec : p.tables.exec = Jvm.exec) (hb : c.code = cc) {atype : ArrayType} (harr : (Cond.arrayClass (newarray.typeOf atype)).before args s = true) {ty : FieldType} (hty : newarray.typeOf atype = ty) (hK : va_K D cl tys s) (hw : pm_W z D cl P H0 H locs) (t0 : Nat) {cA : ClassId} (ht : tys[t0]? = some (cA, ty))
    {n : Int32} {N' : Nat} {a0 : vp_A} (ha : ∀ cA : ClassId, vp_cell cA a0 = arrV cA N' (fun _ => defaultValue ty)) (hn : ¬ n < 0) (hN : n.toNatClampNeg = N') (hbytes : N' * componentBytes ty ≤ 536870912) (hcells : cells + 1 ≤ R.cells) (hslots : slots + N' ≤ R.slots) (hdg : decode cc pc = .ok (.newarray atype, 2))
    (kk : ∀ (q : Nat) (H1 : Heap), P q = none → pm_W z D cl (pm_up P q (.inl (cA, a0))) H0 H1 locs →
      W p l e R s m args below meth c H1 locs (cells + 1) (slots + N') Q (F0 m (pc + 2) ls (.ref q :: rest))) : W p l e R s m args below meth c H locs cells slots Q (F0 m pc ls (.int n :: rest)) := by
  obtain ⟨ws, hP, hD, -, -, hnw⟩ := hw.conv
  refine va_newa hexec hb harr hty hK hP hD hw.2.2 (fun q h => Nat.le_trans hw.1 h) ha hn hN hbytes hcells hslots hdg (fun q cB H1 hK1 hP1 hD1 hS1 => ?_)
  have h1 := (hK1.2 tys.length (cB, ty) (by rw [List.getElem?_append_right (Nat.le_refl _), Nat.sub_self]; rfl)).2
  have h2 := (hK.2 t0 _ ht).2
  have h3 : cB = cA := pm_cls h1 h2
  subst h3
  exact kk q H1 (hnw q _ H1 locs hP1 hD1 hS1).1 (hnw q _ H1 locs hP1 hD1 hS1).2
theorem pm_newq (hexec : p.tables.exec = Jvm.exec) (hb : c.code = cc) {own C : String} {index : Nat} (hown : s.vm.findClass own = some m.cls) (hclink : (Cond.classLink own index C).before args s = true) (hover : va_AO C s) (hK : va_K D cl tys s) (hw : pm_W z D cl P H0 H locs) (t0 : Nat) {cA : ClassId} (ht : tys[t0]? = some (cA, .object C))
    {n : Int32} {N' : Nat} (hn : ¬ n < 0) (hN : n.toNatClampNeg = N') (hbytes : N' * 4 ≤ 536870912) (hcells : cells + 1 ≤ R.cells) (hslots : slots + N' ≤ R.slots) (hdg : decode cc pc = .ok (.anewarray index, 3))
    (kk : ∀ (q : Nat) (H1 : Heap), P q = none → pm_W z D cl (pm_up P q (.inl (cA, N', .inr (.inr (.inr (.inr (fun _ => none))))))) H0 H1 locs →
      W p l e R s m args below meth c H1 locs (cells + 1) (slots + N') Q (F0 m (pc + 3) ls (.ref q :: rest))) : W p l e R s m args below meth c H locs cells slots Q (F0 m pc ls (.int n :: rest)) := by
  obtain ⟨ws, hP, hD, -, -, hnw⟩ := hw.conv
  refine va_newq hexec hb hown hclink hover hK hP hD hw.2.2 (fun q h => Nat.le_trans hw.1 h) hn hN hbytes hcells hslots hdg (fun q cB H1 hK1 hP1 hD1 hS1 => ?_)
  have h1 := (hK1.2 tys.length (cB, .object C) (by rw [List.getElem?_append_right (Nat.le_refl _), Nat.sub_self]; rfl)).2
  have h2 := (hK.2 t0 _ ht).2
  have h3 : cB = cA := pm_cls h1 h2
  subst h3
  exact kk q H1 (hnw q _ H1 locs hP1 hD1 hS1).1 (hnw q _ H1 locs hP1 hD1 hS1).2
end PMR
end
section
abbrev at_y (ac : Nat → ClassId) : List (ClassId × FieldType) := [(ac 0, .int), (ac 1, .long), (ac 2, .boolean), (ac 3, .object "HydrantRows$Hydrant"), (ac 4, .object "HydrantRows$Test"), (ac 5, .object "HydrantRows$Works")]
def ow_w : List Cond := [(Cond.methodLinkNest "HydrantRows" (27 : Nat) ({ cls := "HydrantRows$Ranking", name := "<init>", desc := "()V" } : MethodName) "HydrantRows"), (Cond.methodLinkNest "HydrantRows" (34 : Nat) ({ cls := "HydrantRows$Walk", name := "<init>", desc := "()V" } : MethodName) "HydrantRows"), (Cond.castable "java/lang/IllegalArgumentException" "java/lang/IllegalArgumentException"), (Cond.declares ({ cls := "java/lang/RuntimeException", name := "<init>", desc := "()V" } : MethodName)), (Cond.declares ({ cls := "java/lang/RuntimeException", name := "<init>", desc := "(Ljava/lang/String;)V" } : MethodName)), (Cond.declares ({ cls := "java/lang/Exception", name := "<init>", desc := "()V" } : MethodName)), (Cond.declares ({ cls := "java/lang/Exception", name := "<init>", desc := "(Ljava/lang/String;)V" } : MethodName)), (Cond.declares ({ cls := "java/lang/Throwable", name := "<init>", desc := "()V" } : MethodName)), (Cond.declares ({ cls := "java/lang/Throwable", name := "<init>", desc := "(Ljava/lang/String;)V" } : MethodName)), (Cond.castable "java/lang/IndexOutOfBoundsException" "java/lang/IndexOutOfBoundsException"), (Cond.castable "java/lang/UnsupportedOperationException" "java/lang/UnsupportedOperationException"), (Cond.castable "java/lang/IllegalStateException" "java/lang/IllegalStateException"), (Cond.castable "java/lang/ArithmeticException" "java/lang/ArithmeticException"), (Cond.methodLinkNest "HydrantRows$Hydrant" (69 : Nat) ({ cls := "HydrantRows", name := "hoseLength", desc := "(IIII)I" } : MethodName) "HydrantRows"), (Cond.methodLinkNest "HydrantRows$Walk" (38 : Nat) ({ cls := "HydrantRows", name := "hoseLength", desc := "(IIII)I" } : MethodName) "HydrantRows")]
def st_w : List (Nat × String) := [(272, "no such main"), (56, "no such kind"), (276, "no such place"), (67, "no room for one more hydrant"), (283, "no such flow"), (255, "no such hydrant"), (279, "no such day"), (281, "no such pressure"), (88, "more is left than at rest"), (91, "no room for one more test"), (100, "no such what"), (261, "it has no test"), (269, "the flow can't be told"), (134, "no such defect"), (140, "the second day is below the first"), (146, "a day of these works is one of others"), (151, "no room for more works"), (153, "no such month"), (158, "it is no other water"), (285, "the place in the row is below 0"), (186, "the two hydrants are one"), (195, "no such hose"), (205, "no such number of hydrants"), (292, "a hydrant is told twice"), (223, "no such number of days"), (231, "no such test")]
def nc_w : List (String × String) := [("java/lang/IllegalArgumentException", "java/lang/IndexOutOfBoundsException"), ("java/lang/IllegalArgumentException", "java/lang/IllegalStateException"), ("java/lang/IllegalArgumentException", "java/lang/UnsupportedOperationException"), ("java/lang/IllegalArgumentException", "java/lang/ArithmeticException"), ("java/lang/IndexOutOfBoundsException", "java/lang/IllegalArgumentException"), ("java/lang/IndexOutOfBoundsException", "java/lang/IllegalStateException"), ("java/lang/IndexOutOfBoundsException", "java/lang/UnsupportedOperationException"), ("java/lang/IndexOutOfBoundsException", "java/lang/ArithmeticException"), ("java/lang/IllegalStateException", "java/lang/IllegalArgumentException"), ("java/lang/IllegalStateException", "java/lang/IndexOutOfBoundsException"), ("java/lang/IllegalStateException", "java/lang/UnsupportedOperationException"), ("java/lang/IllegalStateException", "java/lang/ArithmeticException"), ("java/lang/UnsupportedOperationException", "java/lang/IllegalArgumentException"), ("java/lang/UnsupportedOperationException", "java/lang/IndexOutOfBoundsException"), ("java/lang/UnsupportedOperationException", "java/lang/IllegalStateException"), ("java/lang/UnsupportedOperationException", "java/lang/ArithmeticException"), ("java/lang/ArithmeticException", "java/lang/IllegalArgumentException"), ("java/lang/ArithmeticException", "java/lang/IndexOutOfBoundsException"), ("java/lang/ArithmeticException", "java/lang/IllegalStateException"), ("java/lang/ArithmeticException", "java/lang/UnsupportedOperationException")]
def ao_w : List String := ["HydrantRows$Hydrant", "HydrantRows$Test", "HydrantRows$Works"]
/-- what stays as it is through a whole run -/
def cx_K (z : Nat) (D : va_G) (ac : Nat → ClassId) (sa : Nat → Nat) (U : State) : Prop := z ≤ U.heap.size ∧ va_K D cl_w (at_y ac) U ∧ (vx_Zq Bundle.tN "UNASSIGNED_STACK" Bundle.steD (pm_A z) U U.heap ∧ vx_Zq Bundle.tN "SUPPRESSED_SENTINEL" Bundle.listD (pm_A z) U U.heap) ∧ (∀ w ∈ ow_w, va_Nw w U) ∧ (∀ q ∈ nc_w, va_Nc q.1 q.2 U) ∧ (∀ q ∈ st_w, vk_R cn_C q.1 q.2 (sa q.1) U) ∧ (∀ C ∈ ao_w, va_AO C U)
def ow_k : Cond → Bool
  | .castable _ _ => true
  | .declares _ => true
  | .methodLinkNest _ _ _ _ => true
  | _ => false
theorem ow_all : ow_w.all ow_k = true := by decide +kernel
theorem ow_warm {w : Cond} (hw : ow_k w = true) {s U : State} (hW : s.WarmedH U.vm) (h : va_Nw w s) : va_Nw w U := by
  cases w <;> first | exact va_Nw.warmC hW h | exact va_Nw.warmD hW h | exact va_Nw.warmM hW h | cases hw
theorem cx_K.next {z : Nat} {D : va_G} {ac : Nat → ClassId} {sa : Nat → Nat} {s U : State} {H : Heap} {locs : List Loc} (h : cx_K z D ac sa s) (hS : va_S (pm_A z) s.heap H locs) (hU : U.heap = H) (hW : s.WarmedH U.vm) : cx_K z D ac sa U := by
  obtain ⟨h1, h2, ⟨h3, h4⟩, h5, h6, h7, h8⟩ := h
  refine ⟨by rw [hU]; exact Nat.le_trans h1 hS.1, va_K.moved hW.alike h2, ⟨?_, ?_⟩, fun w hw => ow_warm (List.all_eq_true.mp ow_all w hw) hW (h5 w hw), fun q hq => va_Nc.moved hW.alike (h6 q hq), fun q hq => vk_R.warm hW (h7 q hq), fun C hC => va_AO.moved hW.alike (h8 C hC)⟩
  · rw [hU]; exact vx_Zq.moved hW.alike (h3.kept hS.2.1)
  · rw [hU]; exact vx_Zq.moved hW.alike (h4.kept hS.2.1)
theorem cx_K.calling {z : Nat} {D : va_G} {ac : Nat → ClassId} {sa : Nat → Nat} {U : State} {g : JFrame} {mk : MethodId} {a : Array Value} (h : cx_K z D ac sa U) : cx_K z D ac sa (U.calling g mk a) := by
  obtain ⟨h1, h2, ⟨h3, h4⟩, h5, h6, h7, h8⟩ := h
  have hv : (U.calling g mk a).vm = U.vm := rfl
  have ha : U.vm.Alike (U.calling g mk a).vm := Vm.Alike.refl U.vm
  exact ⟨h1, va_K.moved ha h2, ⟨vx_Zq.moved ha h3, vx_Zq.moved ha h4⟩, fun w hw => va_Nw.same (u := U) (U := U.calling g mk a) (by have h9 := List.all_eq_true.mp ow_all w hw; cases w <;> first | rfl | cases h9) hv.symm (h5 w hw), fun q hq => va_Nc.moved ha (h6 q hq), fun q hq => vk_R.same hv (h7 q hq), fun C hC => va_AO.moved ha (h8 C hC)⟩
/-- a method's start -/
def cx_P (z : Nat) (D : va_G) (ac : Nat → ClassId) (sa : Nat → Nat) (P : pm_T) (av : List Value) : Array Value → State → Prop := va_Pc av (fun U => cx_K z D ac sa U ∧ pm_H z D cl_w P U.heap)
theorem cx_blind {z : Nat} {D : va_G} {ac : Nat → ClassId} {sa : Nat → Nat} {P : pm_T} {av : List Value} : FrameBlind (cx_P z D ac sa P av) := fun _ _ _ _ q => ⟨q.1, q.2.1.calling, q.2.2⟩
theorem cx_pre {z : Nat} {D : va_G} {ac : Nat → ClassId} {sa : Nat → Nat} {P : pm_T} {av : List Value} {s : State} {H : Heap} {locs : List Loc} (hK : cx_K z D ac sa s) (hw : pm_W z D cl_w P s.heap H locs) : ∀ U : State, U.heap = H → s.WarmedH U.vm → cx_P z D ac sa P av av.toArray U := fun _ hU hW => ⟨rfl, hK.next hw.2.2 hU hW, by rw [hU]; exact hw.2.1⟩
/-- a method's end: its answer, its world; or what it throws -/
def cx_Q (z : Nat) (D : va_G) (post : Option Value → pm_T → Prop) : Array Value → State → Outcome → State → Prop := fun _ st oc t => (∃ (v : Option Value) (P : pm_T), oc = .returned v ∧ post v P ∧ pm_H z D cl_w P t.heap) ∧ va_F (pm_A z) st t
def cx_X (z : Nat) (D : va_G) (xp : String → pm_T → Prop) : String → State → State → Prop := fun E st t => ∃ P : pm_T, xp E P ∧ pm_H z D cl_w P t.heap ∧ va_F (pm_A z) st t
def cx_M (l : Launch) (y : MethodName) (b : ByteArray) (n : Nat) (ret : Option FieldType) (rm : Room) (z : Nat) (D : va_G) (ac : Nat → ClassId) (sa : Nat → Nat) (P : pm_T) (av : List Value) (post : Option Value → pm_T → Prop) : Prop := Met l y (Cond.code y b n ret :: gw) rm (cx_P z D ac sa P av) (cx_Q z D post) rm.cells rm.slots (pm_A z)
def cx_V (l : Launch) (y : MethodName) (b : ByteArray) (n : Nat) (ret : Option FieldType) (rm : Room) (z : Nat) (D : va_G) (ac : Nat → ClassId) (sa : Nat → Nat) (P : pm_T) (av : List Value) (post : Option Value → pm_T → Prop) (xp : String → pm_T → Prop) : Prop := vx_Met l y (Cond.code y b n ret :: gw) rm (cx_P z D ac sa P av) (cx_Q z D post) (cx_X z D xp) rm.cells rm.slots (pm_A z)
theorem cx_good {w : Cond} (h : w ∈ gw) : w ∈ gw ∧ ((w.onTables && w.keeps) = true ∨ ∃ ty, w = .arrayClass ty) := ⟨h, good_of_word (gw_good w h)⟩
theorem cx_gi {c : Cond} (h : c ∈ gw) : GoodIn gw (c :: gw) := fun w hw => (List.mem_cons.mp hw).elim (fun e => by rw [e]; exact cx_good h) (fun e => cx_good e)
theorem cx_gv {own C : String} {i : Nat} {y : MethodName} {c : Cond} (h1 : Cond.methodLink own i y ∈ gw) (h2 : Cond.instanceMethod y ∈ gw) (h3 : Cond.selects C y y ∈ gw) (h4 : Cond.initialized C ∈ gw) (h5 : c ∈ gw) : GoodIn gw (wsV own i C y (c :: gw)) := by
  intro w hw
  rcases List.mem_append.mp hw with h | h
  · simp only [List.mem_cons, List.not_mem_nil, or_false] at h
    rcases h with rfl | rfl | rfl | rfl
    · exact cx_good h1
    · exact cx_good h2
    · exact cx_good h3
    · exact cx_good h4
  · exact cx_gi h5 w h
theorem cx_gs {own : String} {i : Nat} {y : MethodName} {c : Cond} (h1 : Cond.methodLink own i y ∈ gw) (h2 : Cond.static y ∈ gw) (h4 : Cond.initialized own ∈ gw) (h5 : c ∈ gw) : GoodIn gw (wsS own i y (c :: gw)) := by
  intro w hw
  rcases List.mem_append.mp hw with h | h
  · simp only [List.mem_cons, List.not_mem_nil, or_false] at h
    rcases h with rfl | rfl | rfl
    · exact cx_good h1
    · exact cx_good h2
    · exact cx_good h4
  · exact cx_gi h5 w h
section CXR
variable {p : Program} {l : Launch} {e : Env} {R : Room} {s : State} {m : MethodId} {args : Array Value} {below : List Frame} {meth : Method} {c : Code} {H : Heap} {locs : List Loc} {cells slots : Nat} {Q : State → Prop}
variable {cc : ByteArray} {pc : Nat} {ls : Array Slot} {st0 rest : List Value} {D : va_G} {z : Nat} {ac : Nat → ClassId} {sa : Nat → Nat} {P : pm_T} {post : Option Value → pm_T → Prop} {xp : String → pm_T → Prop}
/-- ends -/
theorem cx_end (hw : pm_W z D cl_w P s.heap H locs) {v : Option Value} (hp : post v P) {t : State} (ht : t.heap = H) : cx_Q z D post args s (.returned v) t := ⟨⟨v, P, rfl, hp, by rw [ht]; exact hw.2.1⟩, hw.2.2.F ht⟩
theorem cx_iret (hx : p.tables.exec = Jvm.exec) (hb : c.code = cc) {ty : FieldType} (hr : meth.sig.returnType = some ty) {v : Int32} (hn : narrow ty (.int v) = .int v) (hlocks : meth.locks = false) (hw : pm_W z D cl_w P s.heap H locs) (hdg : decode cc pc = .ok (.ireturn, 1)) {mc ms : Nat} (h1 : cells ≤ mc) (h2 : slots ≤ ms) (hp : post (some (.int v)) P) : W p l e R s m args below meth c H locs cells slots (MQ below (cx_Q z D post) args s mc ms (pm_A z)) (F0 m pc ls [.int v]) :=
  W.widen h1 h2 (W.zret hx hb hr hn (fun t ht _ => cx_end hw hp ht) hw.2.2.2.2 hdg hlocks)
theorem cx_lret (hx : p.tables.exec = Jvm.exec) (hb : c.code = cc) (hr : meth.sig.returnType = some .long) {v : Int64} (hlocks : meth.locks = false) (hw : pm_W z D cl_w P s.heap H locs) (hdg : decode cc pc = .ok (.lreturn, 1)) {mc ms : Nat} (h1 : cells ≤ mc) (h2 : slots ≤ ms) (hp : post (some (.long v)) P) : W p l e R s m args below meth c H locs cells slots (MQ below (cx_Q z D post) args s mc ms (pm_A z)) (F0 m pc ls [.long v]) :=
  W.widen h1 h2 (W.lret hx hb hr (fun t ht _ => cx_end hw hp ht) hw.2.2.2.2 hdg hlocks)
theorem cx_vret (hx : p.tables.exec = Jvm.exec) (hb : c.code = cc) (hr : meth.sig.returnType = none) (hlocks : meth.locks = false) (hw : pm_W z D cl_w P s.heap H locs) (hdg : decode cc pc = .ok (.return_, 1)) {mc ms : Nat} (h1 : cells ≤ mc) (h2 : slots ≤ ms) (hp : post none P) : W p l e R s m args below meth c H locs cells slots (MQ below (cx_Q z D post) args s mc ms (pm_A z)) (F0 m pc ls []) :=
  W.widen h1 h2 (W.vret hx hb hr (fun t ht _ => cx_end hw hp ht) hw.2.2.2.2 hdg hlocks)
theorem cx_aret (hx : p.tables.exec = Jvm.exec) (hb : c.code = cc) {n : String} (hr : meth.sig.returnType = some (.object n)) {v : Nat} (hlocks : meth.locks = false) (hw : pm_W z D cl_w P s.heap H locs) (hdg : decode cc pc = .ok (.areturn, 1)) {mc ms : Nat} (h1 : cells ≤ mc) (h2 : slots ≤ ms) (hp : post (some (.ref v)) P) : W p l e R s m args below meth c H locs cells slots (MQ below (cx_Q z D post) args s mc ms (pm_A z)) (F0 m pc ls [.ref v]) :=
  W.widen h1 h2 (W.aret hx hb hr (Or.inl ⟨_, rfl⟩) (Or.inr ⟨_, rfl⟩) (fun t ht _ => cx_end hw hp ht) hw.2.2.2.2 hdg hlocks)
/-- behind a call that returns -/
theorem cx_after {a : Array Value} {mc ms : Nat} (hr : va_Run p l e R s m args below meth c H locs cells slots mc ms (F0 m pc ls st0) rest (cx_Q z D post a) (pm_A z)) (hw : pm_W z D cl_w P s.heap H locs)
    (kk : ∀ (v : Option Value) (P' : pm_T) (H1 : Heap) (locs1 : List Loc), post v P' → pm_W z D cl_w P' s.heap H1 locs1 → W p l e R s m args below meth c H1 locs1 (cells + mc) (slots + ms) Q (F0 m (pc + 3) ls (v.toList ++ rest))) : W p l e R s m args below meth c H locs cells slots Q (F0 m pc ls st0) := by
  intro T hT X
  obtain ⟨v, st₀, t, T', L, h0, X', hL, e1, e2, ⟨⟨v', P', hv, hp, hB⟩, hF⟩, st⟩ := hr T hT X
  cases hv
  have h3 : va_S (pm_A z) s.heap T'.heap (locs ++ L) := by
    obtain ⟨g1, g2, g3⟩ := hw.2.2
    obtain ⟨f1, f2⟩ := hF
    rw [h0] at f1 f2
    refine ⟨by rw [e1]; exact Nat.le_trans g1 f1, fun q hq hA => ?_, fun q hq => (List.mem_append.mp hq).elim (g3 q) (hL q)⟩
    rw [e1, f2 q (Nat.lt_of_lt_of_le hq g1) hA]
    exact g2 q hq hA
  obtain ⟨t2, a1, b1⟩ := kk v P' T'.heap _ hp ⟨hw.1, by rw [e1]; exact hB, h3⟩ T' rfl X'
  exact ⟨t2, st t2 a1, b1⟩
/-- behind a call that returns or throws -/
theorem cx_afterX {a : Array Value} {mc ms : Nat} (hr : vx_Run p l e R s m args below meth c H locs cells slots mc ms (F0 m pc ls st0) rest (cx_Q z D post a) (cx_X z D xp) (pm_A z)) (hw : pm_W z D cl_w P s.heap H locs)
    (kx : ∀ (E : String) (ce : Cell) (q9 : Addr) (P' : pm_T) (H1 : Heap) (locs1 : List Loc), xp E P' → pm_W z D cl_w P' s.heap H1 locs1 → H1[q9]? = some ce → ce.vm = .none → s.vm.findClass E = some ce.cls → vx_W p l e R s m args below meth c H1 locs1 (cells + mc) (slots + ms) Q (F0 m pc ls rest) q9)
    (kk : ∀ (v : Option Value) (P' : pm_T) (H1 : Heap) (locs1 : List Loc), post v P' → pm_W z D cl_w P' s.heap H1 locs1 → W p l e R s m args below meth c H1 locs1 (cells + mc) (slots + ms) Q (F0 m (pc + 3) ls (v.toList ++ rest))) : W p l e R s m args below meth c H locs cells slots Q (F0 m pc ls st0) := by
  intro T hT X
  have h3 : ∀ {st₀ t T' : State} {L : List Loc}, st₀.heap = H → T'.heap = t.heap → (∀ q ∈ L, pm_A z q.base) → va_F (pm_A z) st₀ t → va_S (pm_A z) s.heap T'.heap (locs ++ L) := by
    intro st₀ t T' L h0 e1 hL hF
    obtain ⟨g1, g2, g3⟩ := hw.2.2
    obtain ⟨f1, f2⟩ := hF
    rw [h0] at f1 f2
    refine ⟨by rw [e1]; exact Nat.le_trans g1 f1, fun q hq hA => ?_, fun q hq => (List.mem_append.mp hq).elim (g3 q) (hL q)⟩
    rw [e1, f2 q (Nat.lt_of_lt_of_le hq g1) hA]
    exact g2 q hq hA
  rcases hr T hT X with ⟨v, st₀, t, T', L, h0, X', hL, e1, e2, ⟨⟨v', P', hv, hp, hB⟩, hF⟩, st⟩ | ⟨q, st₀, t, T', L, E, ce, h0, X', hL, e1, e2, ⟨P', hp, hB, hF⟩, hce, hcv, hcl, st⟩
  · cases hv
    obtain ⟨t2, a1, b1⟩ := kk v P' T'.heap _ hp ⟨hw.1, by rw [e1]; exact hB, h3 h0 e1 hL hF⟩ T' rfl X'
    exact ⟨t2, st t2 a1, b1⟩
  · obtain ⟨t2, a1, b1⟩ := kx E ce q P' T'.heap _ hp ⟨hw.1, by rw [e1]; exact hB, h3 h0 e1 hL hF⟩ (by rw [e1]; exact hce) hcv hcl T' rfl X'
    exact ⟨t2, st.trans a1, b1⟩
/-- not caught: on to the caller -/
theorem cx_pass {Qc : Array Value → State → Outcome → State → Prop} {E : String} {ce : Cell} {q : Addr} {mc ms : Nat} (hout : ∀ x ∈ c.exceptionTable.toList, False) (hlocks : meth.locks = false) (hcell : H[q]? = some ce) (hv : ce.vm = .none) (hcl : s.vm.findClass E = some ce.cls) (hw : pm_W z D cl_w P s.heap H locs) (hp : xp E P) (h1 : cells ≤ mc) (h2 : slots ≤ ms) :
    vx_W p l e R s m args below meth c H locs cells slots (vx_MQ below Qc (cx_X z D xp) args s mc ms (pm_A z)) (F0 m pc ls rest) q :=
  vx_out (fun x hx => (hout x hx).elim) hlocks hcell hv hcl (fun t ht _ => ⟨P, hp, by rw [ht]; exact hw.2.1, hw.2.2.F ht⟩) hw.2.2.2.2 h1 h2
variable {nL idx n maxL : Nat} {own C : String} {y : MethodName} {bytes : ByteArray} {ret : Option FieldType} {rm : Room} {As : List Value} {b ci N : Nat} {T : u_T} {fs : List Value}
/-- calls of instance methods -/
theorem cx_rV (S : p.tables.exec = Jvm.exec ∧ c.code = cc ∧ c.maxLocals = nL ∧ s.vm.findClass own = some m.cls ∧ ∀ w ∈ gw, w.before args s = true) (hM : cx_M l y bytes maxL ret rm z D ac sa P (.ref b :: As) post)
    (g : GoodIn gw (wsV own idx C y (Cond.code y bytes maxL ret :: gw))) (hd : y.cls = C ∧ y.cls ≠ "java/lang/invoke/MethodHandle" ∧ y.cls ≠ "java/lang/invoke/VarHandle" ∧ (parseMethodDescriptor y.desc).map (fun d => d.parameters.length) = some n) (hR : rm.frames + 1 ≤ R.frames ∧ 8 + (maxL + 11) + rm.locals ≤ R.locals)
    (hK : cx_K z D ac sa s) (hw : pm_W z D cl_w P s.heap H locs) (he : P b = some (.inr (ci, fs))) (hc : cl_w[ci]? = some (C, T, N)) (hn : As.length = n) (hls : ls.size = nL) (hst : st0 = As.reverse ++ .ref b :: rest) (hrest : (rest.map fun v => v.category).sum ≤ 8) (hdg : decode cc pc = .ok (.invokevirtual idx, 3)) (hf : cells + rm.cells ≤ R.cells ∧ slots + rm.slots ≤ R.slots) :
    va_Run p l e R s m args below meth c H locs cells slots rm.cells rm.slots (F0 m pc ls st0) rest (cx_Q z D post (Value.ref b :: As).toArray) (pm_A z) := by
  obtain ⟨ws, hP, hD, hfi, -, -⟩ := hw.conv
  obtain ⟨q0, hq⟩ := hfi _ _ he
  exact va_runV S hM (cwV n S.2.2.2.2 g rfl rfl rfl hd hR) ⟨cx_blind, va_recv hK.2.1 hP hc hq, cx_pre hK hw⟩ rfl hn hls hst (lv_room hrest) hdg hf
theorem cx_rVX (S : p.tables.exec = Jvm.exec ∧ c.code = cc ∧ c.maxLocals = nL ∧ s.vm.findClass own = some m.cls ∧ ∀ w ∈ gw, w.before args s = true) (hM : cx_V l y bytes maxL ret rm z D ac sa P (.ref b :: As) post xp)
    (g : GoodIn gw (wsV own idx C y (Cond.code y bytes maxL ret :: gw))) (hd : y.cls = C ∧ y.cls ≠ "java/lang/invoke/MethodHandle" ∧ y.cls ≠ "java/lang/invoke/VarHandle" ∧ (parseMethodDescriptor y.desc).map (fun d => d.parameters.length) = some n) (hR : rm.frames + 1 ≤ R.frames ∧ 8 + (maxL + 11) + rm.locals ≤ R.locals)
    (hK : cx_K z D ac sa s) (hw : pm_W z D cl_w P s.heap H locs) (he : P b = some (.inr (ci, fs))) (hc : cl_w[ci]? = some (C, T, N)) (hn : As.length = n) (hls : ls.size = nL) (hst : st0 = As.reverse ++ .ref b :: rest) (hrest : (rest.map fun v => v.category).sum ≤ 8) (hdg : decode cc pc = .ok (.invokevirtual idx, 3)) (hf : cells + rm.cells ≤ R.cells ∧ slots + rm.slots ≤ R.slots) :
    vx_Run p l e R s m args below meth c H locs cells slots rm.cells rm.slots (F0 m pc ls st0) rest (cx_Q z D post (Value.ref b :: As).toArray) (cx_X z D xp) (pm_A z) := by
  obtain ⟨ws, hP, hD, hfi, -, -⟩ := hw.conv
  obtain ⟨q0, hq⟩ := hfi _ _ he
  exact vx_runV S hM (cwV n S.2.2.2.2 g rfl rfl rfl hd hR) ⟨cx_blind, va_recv hK.2.1 hP hc hq, cx_pre hK hw⟩ rfl hn hls hst (lv_room hrest) hdg hf
theorem cx_rS (S : p.tables.exec = Jvm.exec ∧ c.code = cc ∧ c.maxLocals = nL ∧ s.vm.findClass own = some m.cls ∧ ∀ w ∈ gw, w.before args s = true) (hM : cx_M l y bytes maxL ret rm z D ac sa P As post)
    (g : GoodIn gw (wsS own idx y (Cond.code y bytes maxL ret :: gw))) (hd : y.cls = own ∧ y.cls ≠ "java/lang/invoke/MethodHandle" ∧ y.cls ≠ "java/lang/invoke/VarHandle" ∧ (parseMethodDescriptor y.desc).map (fun d => d.parameters.length) = some n) (hR : rm.frames + 1 ≤ R.frames ∧ 8 + (maxL + 11) + rm.locals ≤ R.locals)
    (hK : cx_K z D ac sa s) (hw : pm_W z D cl_w P s.heap H locs) (hn : As.length = n) (hls : ls.size = nL) (hst : st0 = As.reverse ++ rest) (hrest : (rest.map fun v => v.category).sum ≤ 8) (hdg : decode cc pc = .ok (.invokestatic idx, 3)) (hf : cells + rm.cells ≤ R.cells ∧ slots + rm.slots ≤ R.slots) :
    va_Run p l e R s m args below meth c H locs cells slots rm.cells rm.slots (F0 m pc ls st0) rest (cx_Q z D post As.toArray) (pm_A z) :=
  va_runS S hM (cwS n S.2.2.2.2 g rfl rfl rfl hd hR) ⟨cx_blind, cx_pre hK hw⟩ rfl hn hls hst (lv_room hrest) hdg hf
theorem cx_rSX (S : p.tables.exec = Jvm.exec ∧ c.code = cc ∧ c.maxLocals = nL ∧ s.vm.findClass own = some m.cls ∧ ∀ w ∈ gw, w.before args s = true) (hM : cx_V l y bytes maxL ret rm z D ac sa P As post xp)
    (g : GoodIn gw (wsS own idx y (Cond.code y bytes maxL ret :: gw))) (hd : y.cls = own ∧ y.cls ≠ "java/lang/invoke/MethodHandle" ∧ y.cls ≠ "java/lang/invoke/VarHandle" ∧ (parseMethodDescriptor y.desc).map (fun d => d.parameters.length) = some n) (hR : rm.frames + 1 ≤ R.frames ∧ 8 + (maxL + 11) + rm.locals ≤ R.locals)
    (hK : cx_K z D ac sa s) (hw : pm_W z D cl_w P s.heap H locs) (hn : As.length = n) (hls : ls.size = nL) (hst : st0 = As.reverse ++ rest) (hrest : (rest.map fun v => v.category).sum ≤ 8) (hdg : decode cc pc = .ok (.invokestatic idx, 3)) (hf : cells + rm.cells ≤ R.cells ∧ slots + rm.slots ≤ R.slots) :
    vx_Run p l e R s m args below meth c H locs cells slots rm.cells rm.slots (F0 m pc ls st0) rest (cx_Q z D post As.toArray) (cx_X z D xp) (pm_A z) :=
  vx_runS S hM (cwS n S.2.2.2.2 g rfl rfl rfl hd hR) ⟨cx_blind, cx_pre hK hw⟩ rfl hn hls hst (lv_room hrest) hdg hf
theorem cx_rI (S : p.tables.exec = Jvm.exec ∧ c.code = cc ∧ c.maxLocals = nL ∧ s.vm.findClass own = some m.cls ∧ ∀ w ∈ gw, w.before args s = true) (hM : cx_M l y bytes maxL none rm z D ac sa P (.ref b :: As) post)
    (h5 : Cond.code y bytes maxL none ∈ gw) (h1 : Cond.methodLink own idx y ∈ gw) (h2 : Cond.instanceMethod y ∈ gw) (h4 : Cond.initialized y.cls ∈ gw) (hy : y.name = "<init>") (hd : y.cls ≠ "java/lang/invoke/MethodHandle" ∧ y.cls ≠ "java/lang/invoke/VarHandle" ∧ (parseMethodDescriptor y.desc).map (fun d => d.parameters.length) = some n) (hR : rm.frames + 1 ≤ R.frames ∧ 8 + (maxL + 11) + rm.locals ≤ R.locals)
    (hK : cx_K z D ac sa s) (hw : pm_W z D cl_w P s.heap H locs) (hn : As.length = n) (hls : ls.size = nL) (hst : st0 = As.reverse ++ .ref b :: rest) (hrest : (rest.map fun v => v.category).sum ≤ 8) (hdg : decode cc pc = .ok (.invokespecial idx, 3)) (hf : cells + rm.cells ≤ R.cells ∧ slots + rm.slots ≤ R.slots) :
    va_Run p l e R s m args below meth c H locs cells slots rm.cells rm.slots (F0 m pc ls st0) rest (cx_Q z D post (Value.ref b :: As).toArray) (pm_A z) :=
  va_runI S hM (cwI n S.2.2.2.2 (cx_gi h5) rfl rfl rfl (S.2.2.2.2 _ h4) (S.2.2.2.2 _ h1) (S.2.2.2.2 _ h2) hy hd hR) ⟨cx_blind, cx_pre hK hw⟩ rfl hn hls hst (lv_room hrest) hdg hf
end CXR
end
section
abbrev xn_IAE : String := "java/lang/IllegalArgumentException"
abbrev xa_IAE : List Cond := vx_atS cn_C 58 xn_IAE ["java/lang/RuntimeException", "java/lang/Exception"]
set_option maxRecDepth 100000 in
theorem xg_IAE : ∀ w ∈ xa_IAE.filter goodWord, w ∈ gw := by decide +kernel
set_option maxRecDepth 100000 in
theorem xb_IAE : ∀ w ∈ xa_IAE.filter (fun w => !goodWord w), w ∈ ow_w := by decide +kernel
set_option maxRecDepth 100000 in
theorem xo_IAE : ∀ w ∈ Cond.classLink cn_C 54 xn_IAE :: Cond.initialized xn_IAE :: xa_IAE, vx_ot w = true := by decide +kernel
abbrev xn_IOB : String := "java/lang/IndexOutOfBoundsException"
abbrev xa_IOB : List Cond := vx_atS cn_C 136 xn_IOB ["java/lang/RuntimeException", "java/lang/Exception"]
set_option maxRecDepth 100000 in
theorem xg_IOB : ∀ w ∈ xa_IOB.filter goodWord, w ∈ gw := by decide +kernel
set_option maxRecDepth 100000 in
theorem xb_IOB : ∀ w ∈ xa_IOB.filter (fun w => !goodWord w), w ∈ ow_w := by decide +kernel
set_option maxRecDepth 100000 in
theorem xo_IOB : ∀ w ∈ Cond.classLink cn_C 132 xn_IOB :: Cond.initialized xn_IOB :: xa_IOB, vx_ot w = true := by decide +kernel
abbrev xn_ISE : String := "java/lang/IllegalStateException"
abbrev xa_ISE : List Cond := vx_atS cn_C 90 xn_ISE ["java/lang/RuntimeException", "java/lang/Exception"]
set_option maxRecDepth 100000 in
theorem xg_ISE : ∀ w ∈ xa_ISE.filter goodWord, w ∈ gw := by decide +kernel
set_option maxRecDepth 100000 in
theorem xb_ISE : ∀ w ∈ xa_ISE.filter (fun w => !goodWord w), w ∈ ow_w := by decide +kernel
set_option maxRecDepth 100000 in
theorem xo_ISE : ∀ w ∈ Cond.classLink cn_C 86 xn_ISE :: Cond.initialized xn_ISE :: xa_ISE, vx_ot w = true := by decide +kernel
abbrev xn_UOE : String := "java/lang/UnsupportedOperationException"
abbrev xa_UOE : List Cond := vx_atS cn_C 69 xn_UOE ["java/lang/RuntimeException", "java/lang/Exception"]
set_option maxRecDepth 100000 in
theorem xg_UOE : ∀ w ∈ xa_UOE.filter goodWord, w ∈ gw := by decide +kernel
set_option maxRecDepth 100000 in
theorem xb_UOE : ∀ w ∈ xa_UOE.filter (fun w => !goodWord w), w ∈ ow_w := by decide +kernel
set_option maxRecDepth 100000 in
theorem xo_UOE : ∀ w ∈ Cond.classLink cn_C 65 xn_UOE :: Cond.initialized xn_UOE :: xa_UOE, vx_ot w = true := by decide +kernel
abbrev xn_ARE : String := "java/lang/ArithmeticException"
abbrev xa_ARE : List Cond := vx_atS cn_C 271 xn_ARE ["java/lang/RuntimeException", "java/lang/Exception"]
set_option maxRecDepth 100000 in
theorem xg_ARE : ∀ w ∈ xa_ARE.filter goodWord, w ∈ gw := by decide +kernel
set_option maxRecDepth 100000 in
theorem xb_ARE : ∀ w ∈ xa_ARE.filter (fun w => !goodWord w), w ∈ ow_w := by decide +kernel
set_option maxRecDepth 100000 in
theorem xo_ARE : ∀ w ∈ Cond.classLink cn_C 267 xn_ARE :: Cond.initialized xn_ARE :: xa_ARE, vx_ot w = true := by decide +kernel
theorem ow_tab {w : Cond} (h : w ∈ ow_w) : w.onTables = true := by
  have h9 := List.all_eq_true.mp ow_all w h
  cases w <;> first | rfl | cases h9
theorem cx_hat {args : Array Value} {s : State} {z : Nat} {D : va_G} {ac : Nat → ClassId} {sa : Nat → Nat} {L : List Cond} (hg : ∀ w ∈ gw, w.before args s = true) (hK : cx_K z D ac sa s) (h1 : ∀ w ∈ L.filter goodWord, w ∈ gw) (h2 : ∀ w ∈ L.filter (fun w => !goodWord w), w ∈ ow_w) : ∀ w ∈ L, w.before args s = true := by
  intro w hw
  by_cases h : goodWord w = true
  · exact hg w (h1 w (List.mem_filter.mpr ⟨hw, h⟩))
  · have h3 := h2 w (List.mem_filter.mpr ⟨hw, by simpa using h⟩)
    exact va_Nw.use (ow_tab h3) (hK.2.2.2.1 w h3)
section CYR
variable {p : Program} {l : Launch} {e : Env} {R : Room} {s : State} {m : MethodId} {args : Array Value} {below : List Frame} {meth : Method} {c : Code} {H : Heap} {locs : List Loc} {cells slots : Nat} {Q : State → Prop}
variable {cc : ByteArray} {pc : Nat} {ls : Array Slot} {st0 rest : List Value} {D : va_G} {z : Nat} {ac : Nat → ClassId} {sa : Nat → Nat} {P : pm_T} {post : Option Value → pm_T → Prop} {xp : String → pm_T → Prop} {Qc : Array Value → State → Outcome → State → Prop}
theorem cx_thr_end {E : String} (hw : pm_W z D cl_w P s.heap H locs) (hp : xp E P) : ∀ t : State, s.vm.Alike t.vm → H.size ≤ t.heap.size → (∀ q : Nat, q < H.size → t.heap[q]? = H[q]?) → cx_X z D xp E s t := by
  intro t _ h1 h2
  refine ⟨P, hp, fun a x ha => ⟨va_at.kept (hw.2.1 a x ha).1 (h2 a (va_at.lt (hw.2.1 a x ha).1)), (hw.2.1 a x ha).2⟩, Nat.le_trans hw.2.2.1 h1, fun q hq hA => ?_⟩
  rw [h2 q (Nat.lt_of_lt_of_le hq hw.2.2.1)]
  exact hw.2.2.2.1 q hq hA
theorem cx_thrS (hx : p.tables.exec = Jvm.exec) (hb : c.code = cc) (hT : l.stackTraces = false) (hml : c.maxLocals = ls.size) (hown : s.vm.findClass cn_C = some m.cls) (hg : ∀ w ∈ gw, w.before args s = true) (hK : cx_K z D ac sa s) (hw : pm_W z D cl_w P s.heap H locs) {E text : String} {ik is ic mc ms : Nat}
    (hE : Bundle.fit E = true) (hk : Cond.classLink cn_C ik E ∈ gw) (hi : Cond.initialized E ∈ gw) (h1 : ∀ w ∈ (vx_atS cn_C ic E ["java/lang/RuntimeException", "java/lang/Exception"]).filter goodWord, w ∈ gw) (h2 : ∀ w ∈ (vx_atS cn_C ic E ["java/lang/RuntimeException", "java/lang/Exception"]).filter (fun w => !goodWord w), w ∈ ow_w) (h3 : ∀ w ∈ Cond.classLink cn_C ik E :: Cond.initialized E :: vx_atS cn_C ic E ["java/lang/RuntimeException", "java/lang/Exception"], vx_ot w = true) (hs : (is, text) ∈ st_w)
    (d0 : decode cc pc = .ok (.new ik, 3)) (d3 : decode cc (pc + 3) = .ok (.dup, 1)) (d4 : decode cc (pc + 4) = .ok (.ldc is, 2)) (d6 : decode cc (pc + 6) = .ok (.invokespecial ic, 3)) (d9 : decode cc (pc + 9) = .ok (.athrow, 1)) (hout : ∀ x ∈ c.exceptionTable.toList, False)
    (hR : 5 < R.frames ∧ (rest.map fun v => v.category).sum + 82 ≤ R.locals ∧ cells + 1 ≤ R.cells ∧ slots + 6 ≤ R.slots) (hlocks : meth.locks = false) (hc : cells + 1 ≤ mc) (hs9 : slots + 6 ≤ ms) (hp : xp E P) : W p l e R s m args below meth c H locs cells slots (vx_MQ below Qc (cx_X z D xp) args s mc ms (pm_A z)) (F0 m pc ls rest) :=
  vx_throwS (names := ["java/lang/RuntimeException", "java/lang/Exception"]) hx hb hT hown hE (by decide +kernel) (hg _ hk) (hg _ hi) (hK.2.2.2.2.2.1 _ hs) (cx_hat hg hK h1 h2) h3 hK.2.2.1.1 hK.2.2.1.2 hw.2.2 hml.symm d0 d3 d4 d6 d9 (fun x hx => (hout x hx).elim) hR.1 hR.2.1 hR.2.2.1 hR.2.2.2 hlocks (cx_thr_end hw hp) hw.2.2.2.2 hc hs9
theorem cx_thrSW (hx : p.tables.exec = Jvm.exec) (hb : c.code = cc) (hT : l.stackTraces = false) (hml : c.maxLocals = ls.size) (hown : s.vm.findClass cn_C = some m.cls) (hg : ∀ w ∈ gw, w.before args s = true) (hK : cx_K z D ac sa s) (hw : pm_W z D cl_w P s.heap H locs) {E text : String} {ik is ic mc ms : Nat}
    (hE : Bundle.fit E = true) (hk : Cond.classLink cn_C ik E ∈ gw) (hi : Cond.initialized E ∈ gw) (h1 : ∀ w ∈ (vx_atS cn_C ic E ["java/lang/RuntimeException", "java/lang/Exception"]).filter goodWord, w ∈ gw) (h2 : ∀ w ∈ (vx_atS cn_C ic E ["java/lang/RuntimeException", "java/lang/Exception"]).filter (fun w => !goodWord w), w ∈ ow_w) (h3 : ∀ w ∈ Cond.classLink cn_C ik E :: Cond.initialized E :: vx_atS cn_C ic E ["java/lang/RuntimeException", "java/lang/Exception"], vx_ot w = true) (hs : (is, text) ∈ st_w)
    (d0 : decode cc pc = .ok (.new ik, 3)) (d3 : decode cc (pc + 3) = .ok (.dup, 1)) (d4 : decode cc (pc + 4) = .ok (.ldc_w is, 3)) (d7 : decode cc (pc + 7) = .ok (.invokespecial ic, 3)) (d10 : decode cc (pc + 10) = .ok (.athrow, 1)) (hout : ∀ x ∈ c.exceptionTable.toList, False)
    (hR : 5 < R.frames ∧ (rest.map fun v => v.category).sum + 82 ≤ R.locals ∧ cells + 1 ≤ R.cells ∧ slots + 6 ≤ R.slots) (hlocks : meth.locks = false) (hc : cells + 1 ≤ mc) (hs9 : slots + 6 ≤ ms) (hp : xp E P) : W p l e R s m args below meth c H locs cells slots (vx_MQ below Qc (cx_X z D xp) args s mc ms (pm_A z)) (F0 m pc ls rest) :=
  vx_throwSW (names := ["java/lang/RuntimeException", "java/lang/Exception"]) hx hb hT hown hE (by decide +kernel) (hg _ hk) (hg _ hi) (hK.2.2.2.2.2.1 _ hs) (cx_hat hg hK h1 h2) h3 hK.2.2.1.1 hK.2.2.1.2 hw.2.2 hml.symm d0 d3 d4 d7 d10 (fun x hx => (hout x hx).elim) hR.1 hR.2.1 hR.2.2.1 hR.2.2.2 hlocks (cx_thr_end hw hp) hw.2.2.2.2 hc hs9
end CYR
section CYO
variable {l : Launch} {y : MethodName} {b : ByteArray} {n : Nat} {ret : Option FieldType} {rm : Room} {z : Nat} {D : va_G} {ac : Nat → ClassId} {sa : Nat → Nat} {P : pm_T} {av : List Value} {post : Option Value → pm_T → Prop} {xp : String → pm_T → Prop}
theorem cx_ofM (hy : plainName y.cls = true) (hlen : (lg_sl av).length ≤ n) (body : ∀ (p : Program) (e : Env) (s : State) (m : MethodId) (below : List Frame) (meth : Method) (c : Code) (ls : Array Slot), p.tables.exec = Jvm.exec → c.code = b → meth.sig.returnType = ret → c.maxLocals = n → (∀ w ∈ gw, w.before av.toArray s = true) → s.vm.findClass y.cls = some m.cls → meth.locks = false → meth.name = y.name → cx_K z D ac sa s → pm_W z D cl_w P s.heap s.heap [] → lv_has ls n (lv_args 0 av) → W p l e rm s m av.toArray below meth c s.heap [] 0 0 (MQ below (cx_Q z D post) av.toArray s rm.cells rm.slots (pm_A z)) (F0 m 0 ls [])) : cx_M l y b n ret rm z D ac sa P av post := by
  refine Met.ofW (cc := b) (maxL := n) (ret := ret) hy rfl ?_
  intro p e s m args below meth c s₁ B hml hv
  obtain ⟨rfl, hK, hH⟩ := hv
  have hl := lv_entry av (n := n) hlen
  rw [lg_entry_eq]
  exact body p e s m below meth c _ B.exec B.bytes B.returns hml (fun w h => atoms_spec (ws := Cond.code y b n ret :: gw) B.pre w (List.mem_cons_of_mem _ h)) (findClass_of_methodNamed B.named) B.notSynchronized (name_of_methodNamed B.named B.method).1 hK ⟨hK.1, hH, va_S.rf⟩ hl
theorem cx_ofV (hy : plainName y.cls = true) (hlen : (lg_sl av).length ≤ n) (body : ∀ (p : Program) (e : Env) (s : State) (m : MethodId) (below : List Frame) (meth : Method) (c : Code) (ls : Array Slot), p.tables.exec = Jvm.exec → c.code = b → meth.sig.returnType = ret → c.maxLocals = n → (∀ w ∈ gw, w.before av.toArray s = true) → s.vm.findClass y.cls = some m.cls → meth.locks = false → (∀ x ∈ c.exceptionTable.toList, False) → cx_K z D ac sa s → pm_W z D cl_w P s.heap s.heap [] → lv_has ls n (lv_args 0 av) → W p l e rm s m av.toArray below meth c s.heap [] 0 0 (vx_MQ below (cx_Q z D post) (cx_X z D xp) av.toArray s rm.cells rm.slots (pm_A z)) (F0 m 0 ls [])) : cx_V l y b n ret rm z D ac sa P av post xp := by
  refine vx_ofW (cc := b) (maxL := n) (ret := ret) hy rfl ?_
  intro p e s m args below meth c s₁ B hml hout hv
  obtain ⟨rfl, hK, hH⟩ := hv
  have hl := lv_entry av (n := n) hlen
  rw [lg_entry_eq]
  exact body p e s m below meth c _ B.exec B.bytes B.returns hml (fun w h => atoms_spec (ws := Cond.code y b n ret :: gw) B.pre w (List.mem_cons_of_mem _ h)) (findClass_of_methodNamed B.named) B.notSynchronized hout hK ⟨hK.1, hH, va_S.rf⟩ hl
end CYO
section CYN
variable {p : Program} {l : Launch} {e : Env} {R : Room} {s : State} {m : MethodId} {args : Array Value} {below : List Frame} {meth : Method} {c : Code} {H : Heap} {locs : List Loc} {cells slots : Nat} {Q : State → Prop}
variable {cc : ByteArray} {pc : Nat} {ls : Array Slot} {st0 rest : List Value} {D : va_G} {z : Nat} {ac : Nat → ClassId} {sa : Nat → Nat} {P : pm_T} {post : Option Value → pm_T → Prop}
variable {nL idx n maxL : Nat} {own host : String} {y : MethodName} {bytes : ByteArray} {ret : Option FieldType} {rm : Room} {As : List Value} {b : Nat}
theorem cx_rIN (S : p.tables.exec = Jvm.exec ∧ c.code = cc ∧ c.maxLocals = nL ∧ s.vm.findClass own = some m.cls ∧ ∀ w ∈ gw, w.before args s = true) (hM : cx_M l y bytes maxL none rm z D ac sa P (.ref b :: As) post)
    (h5 : Cond.code y bytes maxL none ∈ gw) (h1 : Cond.methodLinkNest own idx y host ∈ ow_w) (h2 : Cond.instanceMethod y ∈ gw) (h4 : Cond.initialized y.cls ∈ gw) (hy : y.name = "<init>") (hd : y.cls ≠ "java/lang/invoke/MethodHandle" ∧ y.cls ≠ "java/lang/invoke/VarHandle" ∧ (parseMethodDescriptor y.desc).map (fun d => d.parameters.length) = some n) (hR : rm.frames + 1 ≤ R.frames ∧ 8 + (maxL + 11) + rm.locals ≤ R.locals)
    (hK : cx_K z D ac sa s) (hw : pm_W z D cl_w P s.heap H locs) (hn : As.length = n) (hls : ls.size = nL) (hst : st0 = As.reverse ++ .ref b :: rest) (hrest : (rest.map fun v => v.category).sum ≤ 8) (hdg : decode cc pc = .ok (.invokespecial idx, 3)) (hf : cells + rm.cells ≤ R.cells ∧ slots + rm.slots ≤ R.slots) :
    va_Run p l e R s m args below meth c H locs cells slots rm.cells rm.slots (F0 m pc ls st0) rest (cx_Q z D post (Value.ref b :: As).toArray) (pm_A z) :=
  va_runIN S hM ⟨va_cnB n S.2.2.2.2 (cx_gi h5) rfl rfl rfl (hK.2.2.2.1 _ h1) (S.2.2.2.2 _ h4) hd hR, hy, S.2.2.2.2 _ h2⟩ ⟨cx_blind, cx_pre hK hw⟩ rfl hn hls hst (lv_room hrest) hdg hf
theorem cx_rSN (S : p.tables.exec = Jvm.exec ∧ c.code = cc ∧ c.maxLocals = nL ∧ s.vm.findClass own = some m.cls ∧ ∀ w ∈ gw, w.before args s = true) (hM : cx_M l y bytes maxL ret rm z D ac sa P As post)
    (h5 : Cond.code y bytes maxL ret ∈ gw) (h1 : Cond.methodLinkNest own idx y host ∈ ow_w) (h2 : Cond.static y ∈ gw) (h4 : Cond.initialized y.cls ∈ gw) (hd : y.cls ≠ "java/lang/invoke/MethodHandle" ∧ y.cls ≠ "java/lang/invoke/VarHandle" ∧ (parseMethodDescriptor y.desc).map (fun d => d.parameters.length) = some n) (hR : rm.frames + 1 ≤ R.frames ∧ 8 + (maxL + 11) + rm.locals ≤ R.locals)
    (hK : cx_K z D ac sa s) (hw : pm_W z D cl_w P s.heap H locs) (hn : As.length = n) (hls : ls.size = nL) (hst : st0 = As.reverse ++ rest) (hrest : (rest.map fun v => v.category).sum ≤ 8) (hdg : decode cc pc = .ok (.invokestatic idx, 3)) (hf : cells + rm.cells ≤ R.cells ∧ slots + rm.slots ≤ R.slots) :
    va_Run p l e R s m args below meth c H locs cells slots rm.cells rm.slots (F0 m pc ls st0) rest (cx_Q z D post As.toArray) (pm_A z) :=
  va_runSN S hM ⟨va_cnB n S.2.2.2.2 (cx_gi h5) rfl rfl rfl (hK.2.2.2.1 _ h1) (S.2.2.2.2 _ h4) hd hR, S.2.2.2.2 _ h2, trivial⟩ ⟨cx_blind, cx_pre hK hw⟩ rfl hn hls hst (lv_room hrest) hdg hf
theorem pm_zald {a : Nat} {tys : List (ClassId × FieldType)} {cl : List vw_C} {H0 : Heap} (hexec : p.tables.exec = Jvm.exec) (hb : c.code = cc) (hK : va_K D cl tys s) (hw : pm_W z D cl P H0 H locs) (t0 : Nat) {cA : ClassId} {n : Nat} {f : Nat → Int32} (he : P a = some (.inl (cA, n, .inl f))) (ht : tys[t0]? = some (cA, .boolean)) {i : Int32} (hin : vp_in i n) (hdg : decode cc pc = .ok (.baload, 1))
    (kk : W p l e R s m args below meth c H locs cells slots Q (F0 m (pc + 1) ls (.int (f i.toNatClampNeg) :: rest))) : W p l e R s m args below meth c H locs cells slots Q (F0 m pc ls (.int i :: .ref a :: rest)) := by
  obtain ⟨ws, hP, hD, hf, -, -⟩ := hw.conv
  obtain ⟨q0, hq⟩ := hf _ _ he
  exact va_zald hexec hb hK hP q0 t0 hq ht hin hdg kk
theorem pm_zast {a : Nat} {tys : List (ClassId × FieldType)} {cl : List vw_C} {H0 : Heap} (hexec : p.tables.exec = Jvm.exec) (hb : c.code = cc) (hK : va_K D cl tys s) (hw : pm_W z D cl P H0 H locs) (t0 : Nat) {cA : ClassId} {n : Nat} {f : Nat → Int32} (he : P a = some (.inl (cA, n, .inl f))) (ht : tys[t0]? = some (cA, .boolean)) {i : Int32} {x : Int32} (hin : vp_in i n) (hdg : decode cc pc = .ok (.bastore, 1))
    (kk : ∀ (H1 : Heap) (locs1 : List Loc), pm_W z D cl (pm_up P a (.inl (cA, n, .inl (upd f i.toNatClampNeg (vp_nar .boolean x))))) H0 H1 locs1 → W p l e R s m args below meth c H1 locs1 cells slots Q (F0 m (pc + 1) ls rest)) : W p l e R s m args below meth c H locs cells slots Q (F0 m pc ls (.int x :: .int i :: .ref a :: rest)) := by
  obtain ⟨ws, hP, hD, hf, hs, -⟩ := hw.conv
  obtain ⟨q0, hq⟩ := hf _ _ he
  exact va_zast hexec hb hK hP hD hw.2.2 q0 t0 hq ht hin hdg (fun H1 locs1 hP1 _ hS1 => kk H1 locs1 (hs q0 a _ _ H1 locs1 hq hP1 hS1))
end CYN
end
section
/-- what a test tells at a pressure -/
def su_up (r f p : Int32) : Int32 := if p < r then f * (r - p) else 0
def su_lo (r l p : Int32) : Int32 := if p < r then r - l else 1
def su_wh (r f l p : Int32) : Int32 := if su_lo r l p ≤ 0 then 0 else su_up r f p / su_lo r l p
def su_ab (x : Int32) : Int32 := if 0 ≤ x then x else 0 - x
theorem su_1 {b : Prop} [Decidable b] : narrow .boolean (.int (if b then 1 else 0)) = .int (if b then 1 else 0) := by by_cases h : b <;> simp only [h, if_true, if_false] <;> decide

set_option maxHeartbeats 4000000 in
set_option maxRecDepth 100000 in
theorem c_T_upperAt (l : Launch) (z : Nat) (D : va_G) (ac : Nat → ClassId) (sa : Nat → Nat) (P : pm_T) (h0 : Nat) (tn th td tr tf tl : Int32) (p1 : Int32) (f0 : P h0 = some (.inr (2, [.int tn, .int th, .int td, .int tr, .int tf, .int tl]))) : cx_M l yy_T_upperAt bb_T_upperAt 2 (some .int) ({ frames := 0, cells := 0, slots := 0, locals := 0 } : Room) z D ac sa P [.ref h0, .int p1] (fun v P' => v = some (.int (su_up tr tf p1)) ∧ P' = P) := by
  refine cx_ofM (by decide) (Nat.le_of_ble_eq_true rfl) (fun p e s m below meth c ls hx hb hr hml hg hown hlocks hin hK hw hl => ?_)
  have hl : lv_has ls 2 [(0, .ref h0), (1, .int p1)] := hl
  have hown : s.vm.findClass cn_T = some m.cls := hown
  refine lv_iload_n hx hb dd_T_upperAt_0 rfl (lv_at hl 1 rfl) ?_
  refine lv_aload_n hx hb dd_T_upperAt_1 rfl (lv_at hl 0 rfl) ?_
  refine pm_get (ci := 2) (C := cn_T) (T := cf_T) (N := 6) (v := .int tr) hx hb hg gu_T hown hK.2.1 hw f0 rfl 3 (by decide) (hg _ gf_T_19) (fun _ h9 => h9) rfl dd_T_upperAt_2 ?_
  refine lv_icmp_lt (tgt := 12) hx hb dd_T_upperAt_5 (by decide) (fun c1 => ?_) (fun c1 => ?_)
  · skip
    refine lv_aload_n hx hb dd_T_upperAt_12 rfl (lv_at hl 0 rfl) ?_
    refine pm_get (ci := 2) (C := cn_T) (T := cf_T) (N := 6) (v := .int tf) hx hb hg gu_T hown hK.2.1 hw f0 rfl 4 (by decide) (hg _ gf_T_22) (fun _ h9 => h9) rfl dd_T_upperAt_13 ?_
    refine lv_aload_n hx hb dd_T_upperAt_16 rfl (lv_at hl 0 rfl) ?_
    refine pm_get (ci := 2) (C := cn_T) (T := cf_T) (N := 6) (v := .int tr) hx hb hg gu_T hown hK.2.1 hw f0 rfl 3 (by decide) (hg _ gf_T_19) (fun _ h9 => h9) rfl dd_T_upperAt_17 ?_
    refine lv_iload_n hx hb dd_T_upperAt_20 rfl (lv_at hl 1 rfl) ?_
    refine lv_isub hx hb dd_T_upperAt_21 ?_
    refine lv_imul hx hb dd_T_upperAt_22 ?_
    refine cx_iret (v := (tf * (tr - p1))) hx hb hr rfl hlocks hw dd_T_upperAt_23 (by decide) (by decide) ?_
    exact ⟨by simp only [su_up, if_pos c1], rfl⟩
  · skip
    refine lv_iconst (v := 0) hx hb dd_T_upperAt_8 (by decide) ?_
    refine lv_goto (tgt := 23) hx hb dd_T_upperAt_9 (by decide) ?_
    refine cx_iret (v := (0 : Int32)) hx hb hr rfl hlocks hw dd_T_upperAt_23 (by decide) (by decide) ?_
    exact ⟨by simp only [su_up, if_neg c1], rfl⟩

set_option maxHeartbeats 4000000 in
set_option maxRecDepth 100000 in
theorem c_T_lowerAt (l : Launch) (z : Nat) (D : va_G) (ac : Nat → ClassId) (sa : Nat → Nat) (P : pm_T) (h0 : Nat) (tn th td tr tf tl : Int32) (p1 : Int32) (f0 : P h0 = some (.inr (2, [.int tn, .int th, .int td, .int tr, .int tf, .int tl]))) : cx_M l yy_T_lowerAt bb_T_lowerAt 2 (some .int) ({ frames := 0, cells := 0, slots := 0, locals := 0 } : Room) z D ac sa P [.ref h0, .int p1] (fun v P' => v = some (.int (su_lo tr tl p1)) ∧ P' = P) := by
  refine cx_ofM (by decide) (Nat.le_of_ble_eq_true rfl) (fun p e s m below meth c ls hx hb hr hml hg hown hlocks hin hK hw hl => ?_)
  have hl : lv_has ls 2 [(0, .ref h0), (1, .int p1)] := hl
  have hown : s.vm.findClass cn_T = some m.cls := hown
  refine lv_iload_n hx hb dd_T_lowerAt_0 rfl (lv_at hl 1 rfl) ?_
  refine lv_aload_n hx hb dd_T_lowerAt_1 rfl (lv_at hl 0 rfl) ?_
  refine pm_get (ci := 2) (C := cn_T) (T := cf_T) (N := 6) (v := .int tr) hx hb hg gu_T hown hK.2.1 hw f0 rfl 3 (by decide) (hg _ gf_T_19) (fun _ h9 => h9) rfl dd_T_lowerAt_2 ?_
  refine lv_icmp_lt (tgt := 12) hx hb dd_T_lowerAt_5 (by decide) (fun c1 => ?_) (fun c1 => ?_)
  · skip
    refine lv_aload_n hx hb dd_T_lowerAt_12 rfl (lv_at hl 0 rfl) ?_
    refine pm_get (ci := 2) (C := cn_T) (T := cf_T) (N := 6) (v := .int tr) hx hb hg gu_T hown hK.2.1 hw f0 rfl 3 (by decide) (hg _ gf_T_19) (fun _ h9 => h9) rfl dd_T_lowerAt_13 ?_
    refine lv_aload_n hx hb dd_T_lowerAt_16 rfl (lv_at hl 0 rfl) ?_
    refine pm_get (ci := 2) (C := cn_T) (T := cf_T) (N := 6) (v := .int tl) hx hb hg gu_T hown hK.2.1 hw f0 rfl 5 (by decide) (hg _ gf_T_25) (fun _ h9 => h9) rfl dd_T_lowerAt_17 ?_
    refine lv_isub hx hb dd_T_lowerAt_20 ?_
    refine cx_iret (v := (tr - tl)) hx hb hr rfl hlocks hw dd_T_lowerAt_21 (by decide) (by decide) ?_
    exact ⟨by simp only [su_lo, if_pos c1], rfl⟩
  · skip
    refine lv_iconst (v := 1) hx hb dd_T_lowerAt_8 (by decide) ?_
    refine lv_goto (tgt := 21) hx hb dd_T_lowerAt_9 (by decide) ?_
    refine cx_iret (v := (1 : Int32)) hx hb hr rfl hlocks hw dd_T_lowerAt_21 (by decide) (by decide) ?_
    exact ⟨by simp only [su_lo, if_neg c1], rfl⟩

set_option maxHeartbeats 4000000 in
set_option maxRecDepth 100000 in
theorem c_T_canTell (l : Launch) (z : Nat) (D : va_G) (ac : Nat → ClassId) (sa : Nat → Nat) (P : pm_T) (h0 : Nat) (tn th td tr tf tl : Int32) (p1 : Int32) (f0 : P h0 = some (.inr (2, [.int tn, .int th, .int td, .int tr, .int tf, .int tl]))) : cx_M l yy_T_canTell bb_T_canTell 2 (some .boolean) ({ frames := 1, cells := 0, slots := 0, locals := 21 } : Room) z D ac sa P [.ref h0, .int p1] (fun v P' => v = some (.int (if su_lo tr tl p1 ≤ 0 then 0 else 1)) ∧ P' = P) := by
  refine cx_ofM (by decide) (Nat.le_of_ble_eq_true rfl) (fun p e s m below meth c ls hx hb hr hml hg hown hlocks hin hK hw hl => ?_)
  have hl : lv_has ls 2 [(0, .ref h0), (1, .int p1)] := hl
  have hown : s.vm.findClass cn_T = some m.cls := hown
  refine lv_aload_n hx hb dd_T_canTell_0 rfl (lv_at hl 0 rfl) ?_
  refine lv_iload_n hx hb dd_T_canTell_1 rfl (lv_at hl 1 rfl) ?_
  refine cx_after (cx_rV (n := 1) (As := [.int p1]) (rest := []) ⟨hx, hb, hml, hown, hg⟩ (c_T_lowerAt l z D ac sa P h0 tn th td tr tf tl p1 f0) (cx_gv gm_T_28 gi_T_lowerAt gs_T_lowerAt gn_T gc_T_lowerAt) (by decide +kernel) ⟨by decide, by decide⟩ hK hw f0 rfl rfl hl.1 rfl (Nat.le_of_ble_eq_true rfl) dd_T_canTell_2 ⟨by decide, by decide⟩) hw (fun v9 P9 H locs hp hw => ?_)
  obtain ⟨rfl, e9⟩ := hp
  rw [e9] at hw
  clear e9 P9
  refine W.eq (g2 := F0 m 5 ls [.int (su_lo tr tl p1)]) rfl ?_
  refine lv_if_le (tgt := 12) hx hb dd_T_canTell_5 (by decide) (fun c1 => ?_) (fun c1 => ?_)
  · skip
    refine lv_iconst (v := 0) hx hb dd_T_canTell_12 (by decide) ?_
    refine cx_iret (v := (0 : Int32)) hx hb hr (by decide) hlocks hw dd_T_canTell_13 (by decide) (by decide) ?_
    exact ⟨by simp only [if_pos c1], rfl⟩
  · skip
    refine lv_iconst (v := 1) hx hb dd_T_canTell_8 (by decide) ?_
    refine lv_goto (tgt := 13) hx hb dd_T_canTell_9 (by decide) ?_
    refine cx_iret (v := (1 : Int32)) hx hb hr (by decide) hlocks hw dd_T_canTell_13 (by decide) (by decide) ?_
    exact ⟨by simp only [if_neg c1], rfl⟩

set_option maxHeartbeats 4000000 in
set_option maxRecDepth 100000 in
theorem c_T_wholeAt (l : Launch) (z : Nat) (D : va_G) (ac : Nat → ClassId) (sa : Nat → Nat) (P : pm_T) (h0 : Nat) (tn th td tr tf tl : Int32) (p1 : Int32) (f0 : P h0 = some (.inr (2, [.int tn, .int th, .int td, .int tr, .int tf, .int tl]))) : cx_M l yy_T_wholeAt bb_T_wholeAt 3 (some .int) ({ frames := 1, cells := 0, slots := 0, locals := 21 } : Room) z D ac sa P [.ref h0, .int p1] (fun v P' => v = some (.int (su_wh tr tf tl p1)) ∧ P' = P) := by
  refine cx_ofM (by decide) (Nat.le_of_ble_eq_true rfl) (fun p e s m below meth c ls hx hb hr hml hg hown hlocks hin hK hw hl => ?_)
  have hl : lv_has ls 3 [(0, .ref h0), (1, .int p1)] := hl
  have hown : s.vm.findClass cn_T = some m.cls := hown
  refine lv_aload_n hx hb dd_T_wholeAt_0 rfl (lv_at hl 0 rfl) ?_
  refine lv_iload_n hx hb dd_T_wholeAt_1 rfl (lv_at hl 1 rfl) ?_
  refine cx_after (cx_rV (n := 1) (As := [.int p1]) (rest := []) ⟨hx, hb, hml, hown, hg⟩ (c_T_lowerAt l z D ac sa P h0 tn th td tr tf tl p1 f0) (cx_gv gm_T_28 gi_T_lowerAt gs_T_lowerAt gn_T gc_T_lowerAt) (by decide +kernel) ⟨by decide, by decide⟩ hK hw f0 rfl rfl hl.1 rfl (Nat.le_of_ble_eq_true rfl) dd_T_wholeAt_2 ⟨by decide, by decide⟩) hw (fun v9 P9 H locs hp hw => ?_)
  obtain ⟨rfl, e9⟩ := hp
  rw [e9] at hw
  clear e9 P9
  refine W.eq (g2 := F0 m 5 ls [.int (su_lo tr tl p1)]) rfl ?_
  refine lv_topi (fun x1 ex1 => ?_)
  refine lv_istore_n (lv' := [(2, .int x1), (0, .ref h0), (1, .int p1)]) hx hb dd_T_wholeAt_5 rfl hl (by decide) rfl (fun ls hl => ?_)
  refine lv_iload_n hx hb dd_T_wholeAt_6 rfl (lv_at hl 0 rfl) ?_
  refine lv_if_le (tgt := 20) hx hb dd_T_wholeAt_7 (by decide) (fun c2 => ?_) (fun c2 => ?_)
  · skip
    refine lv_iconst (v := 0) hx hb dd_T_wholeAt_20 (by decide) ?_
    refine cx_iret (v := (0 : Int32)) hx hb hr rfl hlocks hw dd_T_wholeAt_21 (by decide) (by decide) ?_
    rw [ex1] at *
    exact ⟨by simp only [su_wh, if_pos c2], rfl⟩
  · skip
    refine lv_aload_n hx hb dd_T_wholeAt_10 rfl (lv_at hl 1 rfl) ?_
    refine lv_iload_n hx hb dd_T_wholeAt_11 rfl (lv_at hl 2 rfl) ?_
    refine cx_after (cx_rV (n := 1) (As := [.int p1]) (rest := []) ⟨hx, hb, hml, hown, hg⟩ (c_T_upperAt l z D ac sa P h0 tn th td tr tf tl p1 f0) (cx_gv gm_T_32 gi_T_upperAt gs_T_upperAt gn_T gc_T_upperAt) (by decide +kernel) ⟨by decide, by decide⟩ hK hw f0 rfl rfl hl.1 rfl (Nat.le_of_ble_eq_true rfl) dd_T_wholeAt_12 ⟨by decide, by decide⟩) hw (fun v9 P9 H locs hp hw => ?_)
    obtain ⟨rfl, e9⟩ := hp
    rw [e9] at hw
    clear e9 P9
    refine W.eq (g2 := F0 m 15 ls [.int (su_up tr tf p1)]) rfl ?_
    refine lv_iload_n hx hb dd_T_wholeAt_15 rfl (lv_at hl 0 rfl) ?_
    refine lv_idiv hx hb dd_T_wholeAt_16 (fun q9 => absurd (by rw [q9]; decide) c2) ?_
    refine lv_goto (tgt := 21) hx hb dd_T_wholeAt_17 (by decide) ?_
    refine cx_iret (v := ((su_up tr tf p1) / x1)) hx hb hr rfl hlocks hw dd_T_wholeAt_21 (by decide) (by decide) ?_
    rw [ex1] at *
    exact ⟨by simp only [su_wh, if_neg c2], rfl⟩

set_option maxHeartbeats 4000000 in
set_option maxRecDepth 100000 in
theorem c_O_meet (l : Launch) (z : Nat) (D : va_G) (ac : Nat → ClassId) (sa : Nat → Nat) (P : pm_T) (h0 : Nat) (wf wt : Int32) (p1 p2 : Int32) (f0 : P h0 = some (.inr (3, [.int wf, .int wt]))) : cx_M l yy_O_meet bb_O_meet 3 (some .boolean) ({ frames := 0, cells := 0, slots := 0, locals := 0 } : Room) z D ac sa P [.ref h0, .int p1, .int p2] (fun v P' => v = some (.int (if wt < p1 then 0 else if p2 < wf then 0 else 1)) ∧ P' = P) := by
  refine cx_ofM (by decide) (Nat.le_of_ble_eq_true rfl) (fun p e s m below meth c ls hx hb hr hml hg hown hlocks hin hK hw hl => ?_)
  have hl : lv_has ls 3 [(0, .ref h0), (1, .int p1), (2, .int p2)] := hl
  have hown : s.vm.findClass cn_O = some m.cls := hown
  refine lv_iload_n hx hb dd_O_meet_0 rfl (lv_at hl 1 rfl) ?_
  refine lv_aload_n hx hb dd_O_meet_1 rfl (lv_at hl 0 rfl) ?_
  refine pm_get (ci := 3) (C := cn_O) (T := cf_O) (N := 2) (v := .int wt) hx hb hg gu_O hown hK.2.1 hw f0 rfl 1 (by decide) (hg _ gf_O_13) (fun _ h9 => h9) rfl dd_O_meet_2 ?_
  refine lv_icmp_gt (tgt := 20) hx hb dd_O_meet_5 (by decide) (fun c1 => ?_) (fun c1 => ?_)
  · skip
    refine lv_iconst (v := 0) hx hb dd_O_meet_20 (by decide) ?_
    refine cx_iret (v := (0 : Int32)) hx hb hr (by decide) hlocks hw dd_O_meet_21 (by decide) (by decide) ?_
    exact ⟨by simp only [if_pos c1], rfl⟩
  · skip
    refine lv_aload_n hx hb dd_O_meet_8 rfl (lv_at hl 0 rfl) ?_
    refine pm_get (ci := 3) (C := cn_O) (T := cf_O) (N := 2) (v := .int wf) hx hb hg gu_O hown hK.2.1 hw f0 rfl 0 (by decide) (hg _ gf_O_7) (fun _ h9 => h9) rfl dd_O_meet_9 ?_
    refine lv_iload_n hx hb dd_O_meet_12 rfl (lv_at hl 2 rfl) ?_
    refine lv_icmp_gt (tgt := 20) hx hb dd_O_meet_13 (by decide) (fun c2 => ?_) (fun c2 => ?_)
    · skip
      refine lv_iconst (v := 0) hx hb dd_O_meet_20 (by decide) ?_
      refine cx_iret (v := (0 : Int32)) hx hb hr (by decide) hlocks hw dd_O_meet_21 (by decide) (by decide) ?_
      exact ⟨by simp only [if_neg c1, if_pos c2], rfl⟩
    · skip
      refine lv_iconst (v := 1) hx hb dd_O_meet_16 (by decide) ?_
      refine lv_goto (tgt := 21) hx hb dd_O_meet_17 (by decide) ?_
      refine cx_iret (v := (1 : Int32)) hx hb hr (by decide) hlocks hw dd_O_meet_21 (by decide) (by decide) ?_
      exact ⟨by simp only [if_neg c1, if_neg c2], rfl⟩
end
section
def su_ct (ct : Option Nat) (td : Nat → Int32) (t0 : Nat) : Option Nat := match ct with
  | none => some t0
  | some q => if td t0 < td q then some q else some t0
def su_cn (tn : Nat → Int32) (c : Option Nat) : Int32 := match c with
  | none => -1
  | some q => tn q
def su_ow (td : Nat → Int32) (c : Option Nat) : Int32 := match c with
  | none => 0
  | some q => td q + 1
def su_od (td : Nat → Int32) (c : Option Nat) (p1 p2 : Int32) : Int32 := match c with
  | none => 1
  | some q => if p1 - td q ≤ p2 then 0 else 1
def su_gv (tr tf tl : Nat → Int32) (c : Option Nat) (p : Int32) : Int32 := match c with
  | none => 0
  | some q => su_wh (tr q) (tf q) (tl q) p
def su_hose (x y a b : Int32) : Int32 := su_ab (x - a) + su_ab (y - b)
def su_mon (d : Int32) : Int32 := (d - d / 360 * 360) / 30
def su_bit (w k : Int32) : Int32 := (w.toUInt32 >>> (k.toUInt32 &&& Int32.toUInt32 31)).toInt32 &&& 1
def su_dry (w d : Int32) : Int32 := if su_bit w (su_mon d) = 0 then 0 else 1
def su_set (w k on : Int32) : Int32 := if on = 0 then w &&& (((1 : Int32) <<< (k &&& 31)) ^^^ (-1)) else w ||| ((1 : Int32) <<< (k &&& 31))

set_option maxHeartbeats 4000000 in
set_option maxRecDepth 100000 in
theorem c_C_hoseLength (l : Launch) (z : Nat) (D : va_G) (ac : Nat → ClassId) (sa : Nat → Nat) (P : pm_T) (p0 p1 p2 p3 : Int32)  : cx_M l yy_C_hoseLength bb_C_hoseLength 4 (some .int) ({ frames := 1, cells := 0, slots := 0, locals := 40 } : Room) z D ac sa P [.int p0, .int p1, .int p2, .int p3] (fun v P' => v = some (.int (su_hose p0 p1 p2 p3)) ∧ P' = P) := by
  refine cx_ofM (by decide) (Nat.le_of_ble_eq_true rfl) (fun p e s m below meth c ls hx hb hr hml hg hown hlocks hin hK hw hl => ?_)
  have hl : lv_has ls 4 [(0, .int p0), (1, .int p1), (2, .int p2), (3, .int p3)] := hl
  have hown : s.vm.findClass cn_C = some m.cls := hown
  refine lv_iload_n hx hb dd_C_hoseLength_0 rfl (lv_at hl 0 rfl) ?_
  refine lv_iload_n hx hb dd_C_hoseLength_1 rfl (lv_at hl 2 rfl) ?_
  refine lv_isub hx hb dd_C_hoseLength_2 ?_
  refine va_mabs hx hb (by rw [hml]; exact hl.1.symm) hown (hg _ gm_C_294) (hg _ gt_N_abs) (hg _ gn_Math) (hg _ gc_N_abs) (Nat.le_of_ble_eq_true rfl) (Nat.le_of_ble_eq_true rfl) (Nat.le_of_ble_eq_true rfl) (Nat.le_of_ble_eq_true rfl) dd_C_hoseLength_3 ?_
  refine lv_iload_n hx hb dd_C_hoseLength_6 rfl (lv_at hl 1 rfl) ?_
  refine lv_iload_n hx hb dd_C_hoseLength_7 rfl (lv_at hl 3 rfl) ?_
  refine lv_isub hx hb dd_C_hoseLength_8 ?_
  refine va_mabs hx hb (by rw [hml]; exact hl.1.symm) hown (hg _ gm_C_294) (hg _ gt_N_abs) (hg _ gn_Math) (hg _ gc_N_abs) (Nat.le_of_ble_eq_true rfl) (Nat.le_of_ble_eq_true rfl) (Nat.le_of_ble_eq_true rfl) (Nat.le_of_ble_eq_true rfl) dd_C_hoseLength_9 ?_
  refine lv_iadd hx hb dd_C_hoseLength_12 ?_
  refine cx_iret (v := ((if 0 ≤ (p0 - p2) then (p0 - p2) else 0 - (p0 - p2)) + (if 0 ≤ (p1 - p3) then (p1 - p3) else 0 - (p1 - p3)))) hx hb hr rfl hlocks hw dd_C_hoseLength_13 (by decide) (by decide) ?_
  exact ⟨by simp only [su_hose, su_ab], rfl⟩

set_option maxHeartbeats 4000000 in
set_option maxRecDepth 100000 in
theorem c_H_hoseFrom (l : Launch) (z : Nat) (D : va_G) (ac : Nat → ClassId) (sa : Nat → Nat) (P : pm_T) (h0 aw : Nat) (vn vx vy vm vk vc vd vr vt : Int32) (ct : Option Nat) (p1 p2 : Int32) (f0 : P h0 = some (.inr (1, [.int vn, .int vx, .int vy, .int vm, .int vk, .ref aw, .int vc, .int vd, .int vr, .int vt, va_rf ct]))) : cx_M l yy_H_hoseFrom bb_H_hoseFrom 3 (some .int) ({ frames := 2, cells := 0, slots := 0, locals := 63 } : Room) z D ac sa P [.ref h0, .int p1, .int p2] (fun v P' => v = some (.int (su_hose vx vy p1 p2)) ∧ P' = P) := by
  refine cx_ofM (by decide) (Nat.le_of_ble_eq_true rfl) (fun p e s m below meth c ls hx hb hr hml hg hown hlocks hin hK hw hl => ?_)
  have hl : lv_has ls 3 [(0, .ref h0), (1, .int p1), (2, .int p2)] := hl
  have hown : s.vm.findClass cn_H = some m.cls := hown
  refine lv_aload_n hx hb dd_H_hoseFrom_0 rfl (lv_at hl 0 rfl) ?_
  refine pm_get (ci := 1) (C := cn_H) (T := cf_H) (N := 11) (v := .int vx) hx hb hg gu_H hown hK.2.1 hw f0 rfl 1 (by decide) (hg _ gf_H_37) (fun _ h9 => h9) rfl dd_H_hoseFrom_1 ?_
  refine lv_aload_n hx hb dd_H_hoseFrom_4 rfl (lv_at hl 0 rfl) ?_
  refine pm_get (ci := 1) (C := cn_H) (T := cf_H) (N := 11) (v := .int vy) hx hb hg gu_H hown hK.2.1 hw f0 rfl 2 (by decide) (hg _ gf_H_40) (fun _ h9 => h9) rfl dd_H_hoseFrom_5 ?_
  refine lv_iload_n hx hb dd_H_hoseFrom_8 rfl (lv_at hl 1 rfl) ?_
  refine lv_iload_n hx hb dd_H_hoseFrom_9 rfl (lv_at hl 2 rfl) ?_
  refine cx_after (cx_rSN (host := "HydrantRows") (n := 4) (As := [.int vx, .int vy, .int p1, .int p2]) (rest := []) ⟨hx, hb, hml, hown, hg⟩ (c_C_hoseLength l z D ac sa P vx vy p1 p2) gc_C_hoseLength (by decide +kernel) gt_C_hoseLength gn_C (by decide +kernel) ⟨by decide, by decide⟩ hK hw rfl hl.1 rfl (Nat.le_of_ble_eq_true rfl) dd_H_hoseFrom_10 ⟨by decide, by decide⟩) hw (fun v9 P9 H locs hp hw => ?_)
  obtain ⟨rfl, e9⟩ := hp
  rw [e9] at hw
  clear e9 P9
  refine W.eq (g2 := F0 m 13 ls [.int (su_hose vx vy p1 p2)]) rfl ?_
  refine cx_iret (v := (su_hose vx vy p1 p2)) hx hb hr rfl hlocks hw dd_H_hoseFrom_13 (by decide) (by decide) ?_
  exact ⟨rfl, rfl⟩

set_option maxHeartbeats 4000000 in
set_option maxRecDepth 100000 in
theorem c_H_countingNumber (l : Launch) (z : Nat) (D : va_G) (ac : Nat → ClassId) (sa : Nat → Nat) (P : pm_T) (h0 aw : Nat) (vn vx vy vm vk vc vd vr vt : Int32) (ct : Option Nat) (tn th td tr tf tl : Nat → Int32) (ft : ∀ q, ct = some q → P q = some (.inr (2, [.int (tn q), .int (th q), .int (td q), .int (tr q), .int (tf q), .int (tl q)]))) (f0 : P h0 = some (.inr (1, [.int vn, .int vx, .int vy, .int vm, .int vk, .ref aw, .int vc, .int vd, .int vr, .int vt, va_rf ct]))) : cx_M l yy_H_countingNumber bb_H_countingNumber 1 (some .int) ({ frames := 0, cells := 0, slots := 0, locals := 0 } : Room) z D ac sa P [.ref h0] (fun v P' => v = some (.int (su_cn tn ct)) ∧ P' = P) := by
  refine cx_ofM (by decide) (Nat.le_of_ble_eq_true rfl) (fun p e s m below meth c ls hx hb hr hml hg hown hlocks hin hK hw hl => ?_)
  have hl : lv_has ls 1 [(0, .ref h0)] := hl
  have hown : s.vm.findClass cn_H = some m.cls := hown
  refine lv_aload_n hx hb dd_H_countingNumber_0 rfl (lv_at hl 0 rfl) ?_
  refine pm_get (ci := 1) (C := cn_H) (T := cf_H) (N := 11) (v := va_rf ct) hx hb hg gu_H hown hK.2.1 hw f0 rfl 10 (by decide) (hg _ gf_H_30) (fun _ h9 => h9) rfl dd_H_countingNumber_1 ?_
  rcases ct with _ | q1
  · skip
    refine W.eq (g2 := F0 m 4 ls [.null]) rfl ?_
    refine lv_ifnonnullN hx hb dd_H_countingNumber_4 ?_
    refine lv_iconst (v := (-1)) hx hb dd_H_countingNumber_7 (by decide) ?_
    refine lv_goto (tgt := 18) hx hb dd_H_countingNumber_8 (by decide) ?_
    refine cx_iret (v := (-1 : Int32)) hx hb hr rfl hlocks hw dd_H_countingNumber_18 (by decide) (by decide) ?_
    exact ⟨rfl, rfl⟩
  · skip
    refine W.eq (g2 := F0 m 4 ls [.ref q1]) rfl ?_
    have fq1 : P q1 = some (.inr (2, [.int (tn q1), .int (th q1), .int (td q1), .int (tr q1), .int (tf q1), .int (tl q1)])) := ft q1 rfl
    refine lv_ifnonnull (tgt := 11) hx hb dd_H_countingNumber_4 (by decide) ?_
    refine lv_aload_n hx hb dd_H_countingNumber_11 rfl (lv_at hl 0 rfl) ?_
    refine pm_get (ci := 1) (C := cn_H) (T := cf_H) (N := 11) (v := .ref q1) hx hb hg gu_H hown hK.2.1 hw f0 rfl 10 (by decide) (hg _ gf_H_30) (fun _ h9 => h9) rfl dd_H_countingNumber_12 ?_
    refine pm_get (ci := 2) (C := cn_T) (T := cf_T) (N := 6) (v := .int (tn q1)) hx hb hg gu_T hown hK.2.1 hw fq1 rfl 0 (by decide) (hg _ gf_H_54) (fun _ h9 => h9) rfl dd_H_countingNumber_15 ?_
    refine cx_iret (v := (tn q1)) hx hb hr rfl hlocks hw dd_H_countingNumber_18 (by decide) (by decide) ?_
    exact ⟨rfl, rfl⟩

set_option maxHeartbeats 4000000 in
set_option maxRecDepth 100000 in
theorem c_H_overdueWeight (l : Launch) (z : Nat) (D : va_G) (ac : Nat → ClassId) (sa : Nat → Nat) (P : pm_T) (h0 aw : Nat) (vn vx vy vm vk vc vd vr vt : Int32) (ct : Option Nat) (tn th td tr tf tl : Nat → Int32) (ft : ∀ q, ct = some q → P q = some (.inr (2, [.int (tn q), .int (th q), .int (td q), .int (tr q), .int (tf q), .int (tl q)]))) (f0 : P h0 = some (.inr (1, [.int vn, .int vx, .int vy, .int vm, .int vk, .ref aw, .int vc, .int vd, .int vr, .int vt, va_rf ct]))) : cx_M l yy_H_overdueWeight bb_H_overdueWeight 1 (some .int) ({ frames := 0, cells := 0, slots := 0, locals := 0 } : Room) z D ac sa P [.ref h0] (fun v P' => v = some (.int (su_ow td ct)) ∧ P' = P) := by
  refine cx_ofM (by decide) (Nat.le_of_ble_eq_true rfl) (fun p e s m below meth c ls hx hb hr hml hg hown hlocks hin hK hw hl => ?_)
  have hl : lv_has ls 1 [(0, .ref h0)] := hl
  have hown : s.vm.findClass cn_H = some m.cls := hown
  refine lv_aload_n hx hb dd_H_overdueWeight_0 rfl (lv_at hl 0 rfl) ?_
  refine pm_get (ci := 1) (C := cn_H) (T := cf_H) (N := 11) (v := va_rf ct) hx hb hg gu_H hown hK.2.1 hw f0 rfl 10 (by decide) (hg _ gf_H_30) (fun _ h9 => h9) rfl dd_H_overdueWeight_1 ?_
  rcases ct with _ | q1
  · skip
    refine W.eq (g2 := F0 m 4 ls [.null]) rfl ?_
    refine lv_ifnonnullN hx hb dd_H_overdueWeight_4 ?_
    refine lv_iconst (v := 0) hx hb dd_H_overdueWeight_7 (by decide) ?_
    refine lv_goto (tgt := 20) hx hb dd_H_overdueWeight_8 (by decide) ?_
    refine cx_iret (v := (0 : Int32)) hx hb hr rfl hlocks hw dd_H_overdueWeight_20 (by decide) (by decide) ?_
    exact ⟨rfl, rfl⟩
  · skip
    refine W.eq (g2 := F0 m 4 ls [.ref q1]) rfl ?_
    have fq1 : P q1 = some (.inr (2, [.int (tn q1), .int (th q1), .int (td q1), .int (tr q1), .int (tf q1), .int (tl q1)])) := ft q1 rfl
    refine lv_ifnonnull (tgt := 11) hx hb dd_H_overdueWeight_4 (by decide) ?_
    refine lv_aload_n hx hb dd_H_overdueWeight_11 rfl (lv_at hl 0 rfl) ?_
    refine pm_get (ci := 1) (C := cn_H) (T := cf_H) (N := 11) (v := .ref q1) hx hb hg gu_H hown hK.2.1 hw f0 rfl 10 (by decide) (hg _ gf_H_30) (fun _ h9 => h9) rfl dd_H_overdueWeight_12 ?_
    refine pm_get (ci := 2) (C := cn_T) (T := cf_T) (N := 6) (v := .int (td q1)) hx hb hg gu_T hown hK.2.1 hw fq1 rfl 2 (by decide) (hg _ gf_H_49) (fun _ h9 => h9) rfl dd_H_overdueWeight_15 ?_
    refine lv_iconst (v := 1) hx hb dd_H_overdueWeight_18 (by decide) ?_
    refine lv_iadd hx hb dd_H_overdueWeight_19 ?_
    refine cx_iret (v := ((td q1) + (1 : Int32))) hx hb hr rfl hlocks hw dd_H_overdueWeight_20 (by decide) (by decide) ?_
    exact ⟨rfl, rfl⟩

set_option maxHeartbeats 4000000 in
set_option maxRecDepth 100000 in
theorem c_H_isOverdue (l : Launch) (z : Nat) (D : va_G) (ac : Nat → ClassId) (sa : Nat → Nat) (P : pm_T) (h0 aw : Nat) (vn vx vy vm vk vc vd vr vt : Int32) (ct : Option Nat) (tn th td tr tf tl : Nat → Int32) (p1 p2 : Int32) (ft : ∀ q, ct = some q → P q = some (.inr (2, [.int (tn q), .int (th q), .int (td q), .int (tr q), .int (tf q), .int (tl q)]))) (f0 : P h0 = some (.inr (1, [.int vn, .int vx, .int vy, .int vm, .int vk, .ref aw, .int vc, .int vd, .int vr, .int vt, va_rf ct]))) : cx_M l yy_H_isOverdue bb_H_isOverdue 3 (some .boolean) ({ frames := 0, cells := 0, slots := 0, locals := 0 } : Room) z D ac sa P [.ref h0, .int p1, .int p2] (fun v P' => v = some (.int (su_od td ct p1 p2)) ∧ P' = P) := by
  refine cx_ofM (by decide) (Nat.le_of_ble_eq_true rfl) (fun p e s m below meth c ls hx hb hr hml hg hown hlocks hin hK hw hl => ?_)
  have hl : lv_has ls 3 [(0, .ref h0), (1, .int p1), (2, .int p2)] := hl
  have hown : s.vm.findClass cn_H = some m.cls := hown
  refine lv_aload_n hx hb dd_H_isOverdue_0 rfl (lv_at hl 0 rfl) ?_
  refine pm_get (ci := 1) (C := cn_H) (T := cf_H) (N := 11) (v := va_rf ct) hx hb hg gu_H hown hK.2.1 hw f0 rfl 10 (by decide) (hg _ gf_H_30) (fun _ h9 => h9) rfl dd_H_isOverdue_1 ?_
  rcases ct with _ | q1
  · skip
    refine W.eq (g2 := F0 m 4 ls [.null]) rfl ?_
    refine lv_ifnullN (tgt := 20) hx hb dd_H_isOverdue_4 (by decide) ?_
    refine lv_iconst (v := 1) hx hb dd_H_isOverdue_20 (by decide) ?_
    refine lv_goto (tgt := 25) hx hb dd_H_isOverdue_21 (by decide) ?_
    refine cx_iret (v := (1 : Int32)) hx hb hr (by decide) hlocks hw dd_H_isOverdue_25 (by decide) (by decide) ?_
    exact ⟨rfl, rfl⟩
  · skip
    refine W.eq (g2 := F0 m 4 ls [.ref q1]) rfl ?_
    have fq1 : P q1 = some (.inr (2, [.int (tn q1), .int (th q1), .int (td q1), .int (tr q1), .int (tf q1), .int (tl q1)])) := ft q1 rfl
    refine lv_ifnull hx hb dd_H_isOverdue_4 ?_
    refine lv_iload_n hx hb dd_H_isOverdue_7 rfl (lv_at hl 1 rfl) ?_
    refine lv_aload_n hx hb dd_H_isOverdue_8 rfl (lv_at hl 0 rfl) ?_
    refine pm_get (ci := 1) (C := cn_H) (T := cf_H) (N := 11) (v := .ref q1) hx hb hg gu_H hown hK.2.1 hw f0 rfl 10 (by decide) (hg _ gf_H_30) (fun _ h9 => h9) rfl dd_H_isOverdue_9 ?_
    refine pm_get (ci := 2) (C := cn_T) (T := cf_T) (N := 6) (v := .int (td q1)) hx hb hg gu_T hown hK.2.1 hw fq1 rfl 2 (by decide) (hg _ gf_H_49) (fun _ h9 => h9) rfl dd_H_isOverdue_12 ?_
    refine lv_isub hx hb dd_H_isOverdue_15 ?_
    refine lv_iload_n hx hb dd_H_isOverdue_16 rfl (lv_at hl 2 rfl) ?_
    refine lv_icmp_le (tgt := 24) hx hb dd_H_isOverdue_17 (by decide) (fun c1 => ?_) (fun c1 => ?_)
    · skip
      refine lv_iconst (v := 0) hx hb dd_H_isOverdue_24 (by decide) ?_
      refine cx_iret (v := (0 : Int32)) hx hb hr (by decide) hlocks hw dd_H_isOverdue_25 (by decide) (by decide) ?_
      exact ⟨by simp only [su_od, if_pos c1], rfl⟩
    · skip
      refine lv_iconst (v := 1) hx hb dd_H_isOverdue_20 (by decide) ?_
      refine lv_goto (tgt := 25) hx hb dd_H_isOverdue_21 (by decide) ?_
      refine cx_iret (v := (1 : Int32)) hx hb hr (by decide) hlocks hw dd_H_isOverdue_25 (by decide) (by decide) ?_
      exact ⟨by simp only [su_od, if_neg c1], rfl⟩

set_option maxHeartbeats 4000000 in
set_option maxRecDepth 100000 in
theorem c_H_givenAt (l : Launch) (z : Nat) (D : va_G) (ac : Nat → ClassId) (sa : Nat → Nat) (P : pm_T) (h0 aw : Nat) (vn vx vy vm vk vc vd vr vt : Int32) (ct : Option Nat) (tn th td tr tf tl : Nat → Int32) (p1 : Int32) (ft : ∀ q, ct = some q → P q = some (.inr (2, [.int (tn q), .int (th q), .int (td q), .int (tr q), .int (tf q), .int (tl q)]))) (f0 : P h0 = some (.inr (1, [.int vn, .int vx, .int vy, .int vm, .int vk, .ref aw, .int vc, .int vd, .int vr, .int vt, va_rf ct]))) : cx_M l yy_H_givenAt bb_H_givenAt 2 (some .int) ({ frames := 2, cells := 0, slots := 0, locals := 43 } : Room) z D ac sa P [.ref h0, .int p1] (fun v P' => v = some (.int (su_gv tr tf tl ct p1)) ∧ P' = P) := by
  refine cx_ofM (by decide) (Nat.le_of_ble_eq_true rfl) (fun p e s m below meth c ls hx hb hr hml hg hown hlocks hin hK hw hl => ?_)
  have hl : lv_has ls 2 [(0, .ref h0), (1, .int p1)] := hl
  have hown : s.vm.findClass cn_H = some m.cls := hown
  refine lv_aload_n hx hb dd_H_givenAt_0 rfl (lv_at hl 0 rfl) ?_
  refine pm_get (ci := 1) (C := cn_H) (T := cf_H) (N := 11) (v := va_rf ct) hx hb hg gu_H hown hK.2.1 hw f0 rfl 10 (by decide) (hg _ gf_H_30) (fun _ h9 => h9) rfl dd_H_givenAt_1 ?_
  rcases ct with _ | q1
  · skip
    refine W.eq (g2 := F0 m 4 ls [.null]) rfl ?_
    refine lv_ifnonnullN hx hb dd_H_givenAt_4 ?_
    refine lv_iconst (v := 0) hx hb dd_H_givenAt_7 (by decide) ?_
    refine lv_goto (tgt := 19) hx hb dd_H_givenAt_8 (by decide) ?_
    refine cx_iret (v := (0 : Int32)) hx hb hr rfl hlocks hw dd_H_givenAt_19 (by decide) (by decide) ?_
    exact ⟨rfl, rfl⟩
  · skip
    refine W.eq (g2 := F0 m 4 ls [.ref q1]) rfl ?_
    have fq1 : P q1 = some (.inr (2, [.int (tn q1), .int (th q1), .int (td q1), .int (tr q1), .int (tf q1), .int (tl q1)])) := ft q1 rfl
    refine lv_ifnonnull (tgt := 11) hx hb dd_H_givenAt_4 (by decide) ?_
    refine lv_aload_n hx hb dd_H_givenAt_11 rfl (lv_at hl 0 rfl) ?_
    refine pm_get (ci := 1) (C := cn_H) (T := cf_H) (N := 11) (v := .ref q1) hx hb hg gu_H hown hK.2.1 hw f0 rfl 10 (by decide) (hg _ gf_H_30) (fun _ h9 => h9) rfl dd_H_givenAt_12 ?_
    refine lv_iload_n hx hb dd_H_givenAt_15 rfl (lv_at hl 1 rfl) ?_
    refine cx_after (cx_rV (n := 1) (As := [.int p1]) (rest := []) ⟨hx, hb, hml, hown, hg⟩ (c_T_wholeAt l z D ac sa P q1 (tn q1) (th q1) (td q1) (tr q1) (tf q1) (tl q1) p1 fq1) (cx_gv gm_H_73 gi_T_wholeAt gs_T_wholeAt gn_T gc_T_wholeAt) (by decide +kernel) ⟨by decide, by decide⟩ hK hw fq1 rfl rfl hl.1 rfl (Nat.le_of_ble_eq_true rfl) dd_H_givenAt_16 ⟨by decide, by decide⟩) hw (fun v9 P9 H locs hp hw => ?_)
    obtain ⟨rfl, e9⟩ := hp
    rw [e9] at hw
    clear e9 P9
    refine W.eq (g2 := F0 m 19 ls [.int (su_wh (tr q1) (tf q1) (tl q1) p1)]) rfl ?_
    refine cx_iret (v := (su_wh (tr q1) (tf q1) (tl q1) p1)) hx hb hr rfl hlocks hw dd_H_givenAt_19 (by decide) (by decide) ?_
    exact ⟨rfl, rfl⟩

set_option maxHeartbeats 4000000 in
set_option maxRecDepth 100000 in
theorem c_H_isDry (l : Launch) (z : Nat) (D : va_G) (ac : Nat → ClassId) (sa : Nat → Nat) (P : pm_T) (h0 aw : Nat) (vn vx vy vm vk vc vd vr vt : Int32) (ct : Option Nat) (p1 : Int32) (f0 : P h0 = some (.inr (1, [.int vn, .int vx, .int vy, .int vm, .int vk, .ref aw, .int vc, .int vd, .int vr, .int vt, va_rf ct]))) : cx_M l yy_H_isDry bb_H_isDry 3 (some .boolean) ({ frames := 0, cells := 0, slots := 0, locals := 0 } : Room) z D ac sa P [.ref h0, .int p1] (fun v P' => v = some (.int (su_dry vr p1)) ∧ P' = P) := by
  refine cx_ofM (by decide) (Nat.le_of_ble_eq_true rfl) (fun p e s m below meth c ls hx hb hr hml hg hown hlocks hin hK hw hl => ?_)
  have hl : lv_has ls 3 [(0, .ref h0), (1, .int p1)] := hl
  have hown : s.vm.findClass cn_H = some m.cls := hown
  refine lv_iload_n hx hb dd_H_isDry_0 rfl (lv_at hl 1 rfl) ?_
  refine lv_sipush (v := 360) hx hb dd_H_isDry_1 (by decide) ?_
  refine lv_irem hx hb dd_H_isDry_4 (by decide) ?_
  refine lv_bipush (v := 30) hx hb dd_H_isDry_5 (by decide) ?_
  refine lv_idiv hx hb dd_H_isDry_7 (by decide) ?_
  refine lv_topi (fun x1 ex1 => ?_)
  refine lv_istore_n (lv' := [(2, .int x1), (0, .ref h0), (1, .int p1)]) hx hb dd_H_isDry_8 rfl hl (by decide) rfl (fun ls hl => ?_)
  refine lv_aload_n hx hb dd_H_isDry_9 rfl (lv_at hl 1 rfl) ?_
  refine pm_get (ci := 1) (C := cn_H) (T := cf_H) (N := 11) (v := .int vr) hx hb hg gu_H hown hK.2.1 hw f0 rfl 8 (by decide) (hg _ gf_H_24) (fun _ h9 => h9) rfl dd_H_isDry_10 ?_
  refine lv_iload_n hx hb dd_H_isDry_13 rfl (lv_at hl 0 rfl) ?_
  refine lv_iushr hx hb dd_H_isDry_14 rfl ?_
  refine lv_iconst (v := 1) hx hb dd_H_isDry_15 (by decide) ?_
  refine lv_iand hx hb dd_H_isDry_16 ?_
  refine lv_if_eq (tgt := 24) hx hb dd_H_isDry_17 (by decide) (fun c2 => ?_) (fun c2 => ?_)
  · skip
    refine lv_iconst (v := 0) hx hb dd_H_isDry_24 (by decide) ?_
    refine cx_iret (v := (0 : Int32)) hx hb hr (by decide) hlocks hw dd_H_isDry_25 (by decide) (by decide) ?_
    exact ⟨congrArg (fun x => some (Value.int x)) (show (0 : Int32) = su_dry vr p1 from (by rw [ex1] at c2; exact (if_pos c2).symm)), rfl⟩
  · skip
    refine lv_iconst (v := 1) hx hb dd_H_isDry_20 (by decide) ?_
    refine lv_goto (tgt := 25) hx hb dd_H_isDry_21 (by decide) ?_
    refine cx_iret (v := (1 : Int32)) hx hb hr (by decide) hlocks hw dd_H_isDry_25 (by decide) (by decide) ?_
    exact ⟨congrArg (fun x => some (Value.int x)) (show (1 : Int32) = su_dry vr p1 from (by rw [ex1] at c2; exact (if_neg c2).symm)), rfl⟩

set_option maxHeartbeats 4000000 in
set_option maxRecDepth 100000 in
theorem c_H_setDry (l : Launch) (z : Nat) (D : va_G) (ac : Nat → ClassId) (sa : Nat → Nat) (P : pm_T) (h0 aw : Nat) (vn vx vy vm vk vc vd vr vt : Int32) (ct : Option Nat) (p1 p2 : Int32) (f0 : P h0 = some (.inr (1, [.int vn, .int vx, .int vy, .int vm, .int vk, .ref aw, .int vc, .int vd, .int vr, .int vt, va_rf ct]))) : cx_M l yy_H_setDry bb_H_setDry 4 none ({ frames := 0, cells := 0, slots := 0, locals := 0 } : Room) z D ac sa P [.ref h0, .int p1, .int p2] (fun v P' => v = none ∧ P' = pm_up P h0 (.inr (1, [.int vn, .int vx, .int vy, .int vm, .int vk, .ref aw, .int vc, .int vd, .int (su_set vr p1 p2), .int vt, va_rf ct]))) := by
  refine cx_ofM (by decide) (Nat.le_of_ble_eq_true rfl) (fun p e s m below meth c ls hx hb hr hml hg hown hlocks hin hK hw hl => ?_)
  have hl : lv_has ls 4 [(0, .ref h0), (1, .int p1), (2, .int p2)] := hl
  have hown : s.vm.findClass cn_H = some m.cls := hown
  refine lv_iconst (v := 1) hx hb dd_H_setDry_0 (by decide) ?_
  refine lv_iload_n hx hb dd_H_setDry_1 rfl (lv_at hl 1 rfl) ?_
  refine lv_ishl hx hb dd_H_setDry_2 ?_
  refine lv_topi (fun x1 ex1 => ?_)
  refine lv_istore_n (lv' := [(3, .int x1), (0, .ref h0), (1, .int p1), (2, .int p2)]) hx hb dd_H_setDry_3 rfl hl (by decide) rfl (fun ls hl => ?_)
  refine lv_aload_n hx hb dd_H_setDry_4 rfl (lv_at hl 1 rfl) ?_
  refine lv_iload_n hx hb dd_H_setDry_5 rfl (lv_at hl 3 rfl) ?_
  refine lv_if_eq (tgt := 18) hx hb dd_H_setDry_6 (by decide) (fun c2 => ?_) (fun c2 => ?_)
  · skip
    refine lv_aload_n hx hb dd_H_setDry_18 rfl (lv_at hl 1 rfl) ?_
    refine pm_get (ci := 1) (C := cn_H) (T := cf_H) (N := 11) (v := .int vr) hx hb hg gu_H hown hK.2.1 hw f0 rfl 8 (by decide) (hg _ gf_H_24) (fun _ h9 => h9) rfl dd_H_setDry_19 ?_
    refine lv_iload_n hx hb dd_H_setDry_22 rfl (lv_at hl 0 rfl) ?_
    refine lv_iconst (v := (-1)) hx hb dd_H_setDry_23 (by decide) ?_
    refine lv_ixor hx hb dd_H_setDry_24 ?_
    refine lv_iand hx hb dd_H_setDry_25 ?_
    refine lv_topi (fun x3 ex3 => ?_)
    refine pm_put (ci := 1) (v := .int x3) (ty := .int) (C := cn_H) (T := cf_H) (N := 11) hx hb hg gu_H ct_H co_H cm_H hown hK.2.1 hw f0 rfl 8 (by decide) (hg _ gf_H_24) (fun _ h9 => h9) rfl (by decide +kernel) rfl rfl (Nat.le_of_ble_eq_true rfl) dd_H_setDry_26 (fun H locs hw => ?_)
    have hw : pm_W z D cl_w (pm_up P h0 (.inr (1, [.int vn, .int vx, .int vy, .int vm, .int vk, .ref aw, .int vc, .int vd, .int x3, .int vt, va_rf ct]))) s.heap H _ := hw
    obtain ⟨P4, eP4⟩ : ∃ q : pm_T, q = pm_up P h0 (.inr (1, [.int vn, .int vx, .int vy, .int vm, .int vk, .ref aw, .int vc, .int vd, .int x3, .int vt, va_rf ct])) := ⟨_, rfl⟩
    rw [← eP4] at hw
    have f5 : P4 h0 = some (.inr (1, [.int vn, .int vx, .int vy, .int vm, .int vk, .ref aw, .int vc, .int vd, .int x3, .int vt, va_rf ct])) := by rw [eP4]; exact pm_s
    refine cx_vret hx hb hr hlocks hw dd_H_setDry_29 (by decide) (by decide) ?_
    exact ⟨rfl, by rw [eP4, ex3, ex1]; simp only [su_set, if_pos c2]⟩
  · skip
    refine lv_aload_n hx hb dd_H_setDry_9 rfl (lv_at hl 1 rfl) ?_
    refine pm_get (ci := 1) (C := cn_H) (T := cf_H) (N := 11) (v := .int vr) hx hb hg gu_H hown hK.2.1 hw f0 rfl 8 (by decide) (hg _ gf_H_24) (fun _ h9 => h9) rfl dd_H_setDry_10 ?_
    refine lv_iload_n hx hb dd_H_setDry_13 rfl (lv_at hl 0 rfl) ?_
    refine lv_ior hx hb dd_H_setDry_14 ?_
    refine lv_goto (tgt := 26) hx hb dd_H_setDry_15 (by decide) ?_
    refine lv_topi (fun x6 ex6 => ?_)
    refine pm_put (ci := 1) (v := .int x6) (ty := .int) (C := cn_H) (T := cf_H) (N := 11) hx hb hg gu_H ct_H co_H cm_H hown hK.2.1 hw f0 rfl 8 (by decide) (hg _ gf_H_24) (fun _ h9 => h9) rfl (by decide +kernel) rfl rfl (Nat.le_of_ble_eq_true rfl) dd_H_setDry_26 (fun H locs hw => ?_)
    have hw : pm_W z D cl_w (pm_up P h0 (.inr (1, [.int vn, .int vx, .int vy, .int vm, .int vk, .ref aw, .int vc, .int vd, .int x6, .int vt, va_rf ct]))) s.heap H _ := hw
    obtain ⟨P7, eP7⟩ : ∃ q : pm_T, q = pm_up P h0 (.inr (1, [.int vn, .int vx, .int vy, .int vm, .int vk, .ref aw, .int vc, .int vd, .int x6, .int vt, va_rf ct])) := ⟨_, rfl⟩
    rw [← eP7] at hw
    have f8 : P7 h0 = some (.inr (1, [.int vn, .int vx, .int vy, .int vm, .int vk, .ref aw, .int vc, .int vd, .int x6, .int vt, va_rf ct])) := by rw [eP7]; exact pm_s
    refine cx_vret hx hb hr hlocks hw dd_H_setDry_29 (by decide) (by decide) ?_
    exact ⟨rfl, by rw [eP7, ex6, ex1]; simp only [su_set, if_neg c2]⟩

set_option maxHeartbeats 4000000 in
set_option maxRecDepth 100000 in
theorem c_H_take (l : Launch) (z : Nat) (D : va_G) (ac : Nat → ClassId) (sa : Nat → Nat) (P : pm_T) (h0 aw : Nat) (vn vx vy vm vk vc vd vr vt : Int32) (ct : Option Nat) (tn th td tr tf tl : Nat → Int32) (t0 : Nat) (ft : ∀ q, ct = some q → P q = some (.inr (2, [.int (tn q), .int (th q), .int (td q), .int (tr q), .int (tf q), .int (tl q)]))) (f0 : P h0 = some (.inr (1, [.int vn, .int vx, .int vy, .int vm, .int vk, .ref aw, .int vc, .int vd, .int vr, .int vt, va_rf ct]))) (f1 : P t0 = some (.inr (2, [.int (tn t0), .int (th t0), .int (td t0), .int (tr t0), .int (tf t0), .int (tl t0)]))) : cx_M l yy_H_take bb_H_take 2 none ({ frames := 0, cells := 0, slots := 0, locals := 0 } : Room) z D ac sa P [.ref h0, .ref t0] (fun v P' => v = none ∧ P' = pm_up P h0 (.inr (1, [.int vn, .int vx, .int vy, .int vm, .int vk, .ref aw, .int vc, .int vd, .int vr, .int (vt + 1), va_rf (su_ct ct td t0)]))) := by
  refine cx_ofM (by decide) (Nat.le_of_ble_eq_true rfl) (fun p e s m below meth c ls hx hb hr hml hg hown hlocks hin hK hw hl => ?_)
  have hl : lv_has ls 2 [(0, .ref h0), (1, .ref t0)] := hl
  have hown : s.vm.findClass cn_H = some m.cls := hown
  rcases ct with _ | q1
  · skip
    refine lv_aload_n hx hb dd_H_take_0 rfl (lv_at hl 0 rfl) ?_
    refine lv_dup hx hb dd_H_take_1 rfl ?_
    refine pm_get (ci := 1) (C := cn_H) (T := cf_H) (N := 11) (v := .int vt) hx hb hg gu_H hown hK.2.1 hw f0 rfl 9 (by decide) (hg _ gf_H_27) (fun _ h9 => h9) rfl dd_H_take_2 ?_
    refine lv_iconst (v := 1) hx hb dd_H_take_5 (by decide) ?_
    refine lv_iadd hx hb dd_H_take_6 ?_
    refine lv_topi (fun x1 ex1 => ?_)
    refine pm_put (ci := 1) (v := .int x1) (ty := .int) (C := cn_H) (T := cf_H) (N := 11) hx hb hg gu_H ct_H co_H cm_H hown hK.2.1 hw f0 rfl 9 (by decide) (hg _ gf_H_27) (fun _ h9 => h9) rfl (by decide +kernel) rfl rfl (Nat.le_of_ble_eq_true rfl) dd_H_take_7 (fun H locs hw => ?_)
    have hw : pm_W z D cl_w (pm_up P h0 (.inr (1, [.int vn, .int vx, .int vy, .int vm, .int vk, .ref aw, .int vc, .int vd, .int vr, .int x1, .null]))) s.heap H _ := hw
    obtain ⟨P2, eP2⟩ : ∃ q : pm_T, q = pm_up P h0 (.inr (1, [.int vn, .int vx, .int vy, .int vm, .int vk, .ref aw, .int vc, .int vd, .int vr, .int x1, .null])) := ⟨_, rfl⟩
    rw [← eP2] at hw
    have f3 : P2 t0 = some (.inr (2, [.int (tn t0), .int (th t0), .int (td t0), .int (tr t0), .int (tf t0), .int (tl t0)])) := by rw [eP2, pm_n (pm_ne f1 f0 (by simp))]; exact f1
    have f4 : P2 h0 = some (.inr (1, [.int vn, .int vx, .int vy, .int vm, .int vk, .ref aw, .int vc, .int vd, .int vr, .int x1, .null])) := by rw [eP2]; exact pm_s
    refine lv_aload_n hx hb dd_H_take_10 rfl (lv_at hl 0 rfl) ?_
    refine pm_get (ci := 1) (C := cn_H) (T := cf_H) (N := 11) (v := .null) hx hb hg gu_H hown hK.2.1 hw f4 rfl 10 (by decide) (hg _ gf_H_30) (fun _ h9 => h9) rfl dd_H_take_11 ?_
    refine lv_ifnullN (tgt := 31) hx hb dd_H_take_14 (by decide) ?_
    refine lv_aload_n hx hb dd_H_take_31 rfl (lv_at hl 0 rfl) ?_
    refine lv_aload_n hx hb dd_H_take_32 rfl (lv_at hl 1 rfl) ?_
    refine pm_put (ci := 1) (v := .ref t0) (ty := .object "HydrantRows$Test") (C := cn_H) (T := cf_H) (N := 11) hx hb hg gu_H ct_H co_H cm_H hown hK.2.1 hw f4 rfl 10 (by decide) (hg _ gf_H_30) (fun _ h9 => h9) rfl (by decide +kernel) rfl rfl (Nat.le_of_ble_eq_true rfl) dd_H_take_33 (fun H locs hw => ?_)
    have hw : pm_W z D cl_w (pm_up P2 h0 (.inr (1, [.int vn, .int vx, .int vy, .int vm, .int vk, .ref aw, .int vc, .int vd, .int vr, .int x1, .ref t0]))) s.heap H _ := hw
    obtain ⟨P5, eP5⟩ : ∃ q : pm_T, q = pm_up P2 h0 (.inr (1, [.int vn, .int vx, .int vy, .int vm, .int vk, .ref aw, .int vc, .int vd, .int vr, .int x1, .ref t0])) := ⟨_, rfl⟩
    rw [← eP5] at hw
    have f6 : P5 t0 = some (.inr (2, [.int (tn t0), .int (th t0), .int (td t0), .int (tr t0), .int (tf t0), .int (tl t0)])) := by rw [eP5, pm_n (pm_ne f3 f4 (by simp))]; exact f3
    have f7 : P5 h0 = some (.inr (1, [.int vn, .int vx, .int vy, .int vm, .int vk, .ref aw, .int vc, .int vd, .int vr, .int x1, .ref t0])) := by rw [eP5]; exact pm_s
    refine cx_vret hx hb hr hlocks hw dd_H_take_36 (by decide) (by decide) ?_
    exact ⟨rfl, by simp only [eP5, eP2, ex1, pm_uu, su_ct, va_rf]⟩
  · skip
    have fq1 : P q1 = some (.inr (2, [.int (tn q1), .int (th q1), .int (td q1), .int (tr q1), .int (tf q1), .int (tl q1)])) := ft q1 rfl
    refine lv_aload_n hx hb dd_H_take_0 rfl (lv_at hl 0 rfl) ?_
    refine lv_dup hx hb dd_H_take_1 rfl ?_
    refine pm_get (ci := 1) (C := cn_H) (T := cf_H) (N := 11) (v := .int vt) hx hb hg gu_H hown hK.2.1 hw f0 rfl 9 (by decide) (hg _ gf_H_27) (fun _ h9 => h9) rfl dd_H_take_2 ?_
    refine lv_iconst (v := 1) hx hb dd_H_take_5 (by decide) ?_
    refine lv_iadd hx hb dd_H_take_6 ?_
    refine lv_topi (fun x8 ex8 => ?_)
    refine pm_put (ci := 1) (v := .int x8) (ty := .int) (C := cn_H) (T := cf_H) (N := 11) hx hb hg gu_H ct_H co_H cm_H hown hK.2.1 hw f0 rfl 9 (by decide) (hg _ gf_H_27) (fun _ h9 => h9) rfl (by decide +kernel) rfl rfl (Nat.le_of_ble_eq_true rfl) dd_H_take_7 (fun H locs hw => ?_)
    have hw : pm_W z D cl_w (pm_up P h0 (.inr (1, [.int vn, .int vx, .int vy, .int vm, .int vk, .ref aw, .int vc, .int vd, .int vr, .int x8, .ref q1]))) s.heap H _ := hw
    obtain ⟨P9, eP9⟩ : ∃ q : pm_T, q = pm_up P h0 (.inr (1, [.int vn, .int vx, .int vy, .int vm, .int vk, .ref aw, .int vc, .int vd, .int vr, .int x8, .ref q1])) := ⟨_, rfl⟩
    rw [← eP9] at hw
    have f10 : P9 t0 = some (.inr (2, [.int (tn t0), .int (th t0), .int (td t0), .int (tr t0), .int (tf t0), .int (tl t0)])) := by rw [eP9, pm_n (pm_ne f1 f0 (by simp))]; exact f1
    have f11 : P9 q1 = some (.inr (2, [.int (tn q1), .int (th q1), .int (td q1), .int (tr q1), .int (tf q1), .int (tl q1)])) := by rw [eP9, pm_n (pm_ne fq1 f0 (by simp))]; exact fq1
    have f12 : P9 h0 = some (.inr (1, [.int vn, .int vx, .int vy, .int vm, .int vk, .ref aw, .int vc, .int vd, .int vr, .int x8, .ref q1])) := by rw [eP9]; exact pm_s
    refine lv_aload_n hx hb dd_H_take_10 rfl (lv_at hl 0 rfl) ?_
    refine pm_get (ci := 1) (C := cn_H) (T := cf_H) (N := 11) (v := .ref q1) hx hb hg gu_H hown hK.2.1 hw f12 rfl 10 (by decide) (hg _ gf_H_30) (fun _ h9 => h9) rfl dd_H_take_11 ?_
    refine lv_ifnull hx hb dd_H_take_14 ?_
    refine lv_aload_n hx hb dd_H_take_17 rfl (lv_at hl 1 rfl) ?_
    refine pm_get (ci := 2) (C := cn_T) (T := cf_T) (N := 6) (v := .int (td t0)) hx hb hg gu_T hown hK.2.1 hw f10 rfl 2 (by decide) (hg _ gf_H_49) (fun _ h9 => h9) rfl dd_H_take_18 ?_
    refine lv_aload_n hx hb dd_H_take_21 rfl (lv_at hl 0 rfl) ?_
    refine pm_get (ci := 1) (C := cn_H) (T := cf_H) (N := 11) (v := .ref q1) hx hb hg gu_H hown hK.2.1 hw f12 rfl 10 (by decide) (hg _ gf_H_30) (fun _ h9 => h9) rfl dd_H_take_22 ?_
    refine pm_get (ci := 2) (C := cn_T) (T := cf_T) (N := 6) (v := .int (td q1)) hx hb hg gu_T hown hK.2.1 hw f11 rfl 2 (by decide) (hg _ gf_H_49) (fun _ h9 => h9) rfl dd_H_take_25 ?_
    refine lv_icmp_lt (tgt := 36) hx hb dd_H_take_28 (by decide) (fun c13 => ?_) (fun c13 => ?_)
    · skip
      refine cx_vret hx hb hr hlocks hw dd_H_take_36 (by decide) (by decide) ?_
      exact ⟨rfl, by simp only [eP9, ex8, pm_uu, su_ct, va_rf, if_pos c13]⟩
    · skip
      refine lv_aload_n hx hb dd_H_take_31 rfl (lv_at hl 0 rfl) ?_
      refine lv_aload_n hx hb dd_H_take_32 rfl (lv_at hl 1 rfl) ?_
      refine pm_put (ci := 1) (v := .ref t0) (ty := .object "HydrantRows$Test") (C := cn_H) (T := cf_H) (N := 11) hx hb hg gu_H ct_H co_H cm_H hown hK.2.1 hw f12 rfl 10 (by decide) (hg _ gf_H_30) (fun _ h9 => h9) rfl (by decide +kernel) rfl rfl (Nat.le_of_ble_eq_true rfl) dd_H_take_33 (fun H locs hw => ?_)
      have hw : pm_W z D cl_w (pm_up P9 h0 (.inr (1, [.int vn, .int vx, .int vy, .int vm, .int vk, .ref aw, .int vc, .int vd, .int vr, .int x8, .ref t0]))) s.heap H _ := hw
      obtain ⟨P14, eP14⟩ : ∃ q : pm_T, q = pm_up P9 h0 (.inr (1, [.int vn, .int vx, .int vy, .int vm, .int vk, .ref aw, .int vc, .int vd, .int vr, .int x8, .ref t0])) := ⟨_, rfl⟩
      rw [← eP14] at hw
      have f15 : P14 t0 = some (.inr (2, [.int (tn t0), .int (th t0), .int (td t0), .int (tr t0), .int (tf t0), .int (tl t0)])) := by rw [eP14, pm_n (pm_ne f10 f12 (by simp))]; exact f10
      have f16 : P14 q1 = some (.inr (2, [.int (tn q1), .int (th q1), .int (td q1), .int (tr q1), .int (tf q1), .int (tl q1)])) := by rw [eP14, pm_n (pm_ne f11 f12 (by simp))]; exact f11
      have f17 : P14 h0 = some (.inr (1, [.int vn, .int vx, .int vy, .int vm, .int vk, .ref aw, .int vc, .int vd, .int vr, .int x8, .ref t0])) := by rw [eP14]; exact pm_s
      refine cx_vret hx hb hr hlocks hw dd_H_take_36 (by decide) (by decide) ?_
      exact ⟨rfl, by simp only [eP14, eP9, ex8, pm_uu, su_ct, va_rf, if_neg c13]⟩
end
section
theorem vp_in_lt {x : Int32} (h1 : ¬ x < 0) (h2 : x < 3) : vp_in x 3 := by
  rw [vp_in_iff]
  rw [Int32.lt_iff_toInt_lt] at h1 h2
  have e0 : (0 : Int32).toInt = 0 := by decide
  have e3 : (3 : Int32).toInt = 3 := by decide
  rw [e0] at h1
  rw [e3] at h2
  omega
theorem vp_in_ge {x : Int32} {n : Nat} (hn : n < 2 ^ 31) (h1 : ¬ x < 0) (h2 : ¬ nI n ≤ x) : vp_in x n := by
  obtain ⟨j, hj, rfl⟩ := nI_of h1
  refine vp_in_nI ?_ hn
  rcases Nat.lt_or_ge j n with h | h
  · exact h
  · exact absurd (nI_le h hj) h2
theorem vp_in_lg {x : Int32} {n : Nat} (hn : n < 2 ^ 31) (h1 : ¬ x < 0) (h2 : x < nI n) : vp_in x n := by
  obtain ⟨j, hj, rfl⟩ := nI_of h1
  refine vp_in_nI ?_ hn
  rcases Nat.lt_or_ge j n with h | h
  · exact h
  · exact absurd h2 (nI_nlt h hj)

set_option maxHeartbeats 4000000 in
set_option maxRecDepth 100000 in
theorem c_T_init (l : Launch) (z : Nat) (D : va_G) (ac : Nat → ClassId) (sa : Nat → Nat) (P : pm_T) (h0 : Nat) (p1 p2 p3 p4 p5 p6 : Int32) (f0 : P h0 = some (.inr (2, [.int 0, .int 0, .int 0, .int 0, .int 0, .int 0]))) : cx_M l yy_T_init bb_T_init 7 none ({ frames := 1, cells := 0, slots := 0, locals := 12 } : Room) z D ac sa P [.ref h0, .int p1, .int p2, .int p3, .int p4, .int p5, .int p6] (fun v P' => v = none ∧ P' = pm_up P h0 (.inr (2, [.int p1, .int p2, .int p3, .int p4, .int p5, .int p6]))) := by
  refine cx_ofM (by decide) (Nat.le_of_ble_eq_true rfl) (fun p e s m below meth c ls hx hb hr hml hg hown hlocks hin hK hw hl => ?_)
  have hl : lv_has ls 7 [(0, .ref h0), (1, .int p1), (2, .int p2), (3, .int p3), (4, .int p4), (5, .int p5), (6, .int p6)] := hl
  have hown : s.vm.findClass cn_T = some m.cls := hown
  refine lv_aload_n hx hb dd_T_init_0 rfl (lv_at hl 0 rfl) ?_
  refine W.objInit hx hb hown (hg _ gm_T_1) (hg _ gi_objectInit) (hg _ gc_objectInit) rfl (by rw [hml]; exact hl.1) rfl dd_T_init_1 (Nat.le_of_ble_eq_true rfl) (Nat.le_of_ble_eq_true rfl) ?_
  refine W.eq (g2 := F0 m 4 ls []) rfl ?_
  refine lv_aload_n hx hb dd_T_init_4 rfl (lv_at hl 0 rfl) ?_
  refine lv_iload_n hx hb dd_T_init_5 rfl (lv_at hl 1 rfl) ?_
  refine pm_putF (ci := 2) (v := .int p1) (ty := .int) (C := cn_T) (T := cf_T) (N := 6) hx hb hg gu_T ct_T co_T cm_T hown hK.2.1 hw f0 rfl 0 (by decide) (hg _ gf_T_7) (fun _ h9 => h9) rfl hin rfl (by decide +kernel) rfl rfl (Nat.le_of_ble_eq_true rfl) dd_T_init_6 (fun H locs hw => ?_)
  have hw : pm_W z D cl_w (pm_up P h0 (.inr (2, [.int p1, .int 0, .int 0, .int 0, .int 0, .int 0]))) s.heap H _ := hw
  obtain ⟨P1, eP1⟩ : ∃ q : pm_T, q = pm_up P h0 (.inr (2, [.int p1, .int 0, .int 0, .int 0, .int 0, .int 0])) := ⟨_, rfl⟩
  rw [← eP1] at hw
  have f2 : P1 h0 = some (.inr (2, [.int p1, .int 0, .int 0, .int 0, .int 0, .int 0])) := by rw [eP1]; exact pm_s
  refine lv_aload_n hx hb dd_T_init_9 rfl (lv_at hl 0 rfl) ?_
  refine lv_iload_n hx hb dd_T_init_10 rfl (lv_at hl 2 rfl) ?_
  refine pm_putF (ci := 2) (v := .int p2) (ty := .int) (C := cn_T) (T := cf_T) (N := 6) hx hb hg gu_T ct_T co_T cm_T hown hK.2.1 hw f2 rfl 1 (by decide) (hg _ gf_T_13) (fun _ h9 => h9) rfl hin rfl (by decide +kernel) rfl rfl (Nat.le_of_ble_eq_true rfl) dd_T_init_11 (fun H locs hw => ?_)
  have hw : pm_W z D cl_w (pm_up P1 h0 (.inr (2, [.int p1, .int p2, .int 0, .int 0, .int 0, .int 0]))) s.heap H _ := hw
  obtain ⟨P3, eP3⟩ : ∃ q : pm_T, q = pm_up P1 h0 (.inr (2, [.int p1, .int p2, .int 0, .int 0, .int 0, .int 0])) := ⟨_, rfl⟩
  rw [← eP3] at hw
  have f4 : P3 h0 = some (.inr (2, [.int p1, .int p2, .int 0, .int 0, .int 0, .int 0])) := by rw [eP3]; exact pm_s
  refine lv_aload_n hx hb dd_T_init_14 rfl (lv_at hl 0 rfl) ?_
  refine lv_iload_n hx hb dd_T_init_15 rfl (lv_at hl 3 rfl) ?_
  refine pm_putF (ci := 2) (v := .int p3) (ty := .int) (C := cn_T) (T := cf_T) (N := 6) hx hb hg gu_T ct_T co_T cm_T hown hK.2.1 hw f4 rfl 2 (by decide) (hg _ gf_T_16) (fun _ h9 => h9) rfl hin rfl (by decide +kernel) rfl rfl (Nat.le_of_ble_eq_true rfl) dd_T_init_16 (fun H locs hw => ?_)
  have hw : pm_W z D cl_w (pm_up P3 h0 (.inr (2, [.int p1, .int p2, .int p3, .int 0, .int 0, .int 0]))) s.heap H _ := hw
  obtain ⟨P5, eP5⟩ : ∃ q : pm_T, q = pm_up P3 h0 (.inr (2, [.int p1, .int p2, .int p3, .int 0, .int 0, .int 0])) := ⟨_, rfl⟩
  rw [← eP5] at hw
  have f6 : P5 h0 = some (.inr (2, [.int p1, .int p2, .int p3, .int 0, .int 0, .int 0])) := by rw [eP5]; exact pm_s
  refine lv_aload_n hx hb dd_T_init_19 rfl (lv_at hl 0 rfl) ?_
  refine lv_iload hx hb dd_T_init_20 (lv_at hl 4 rfl) ?_
  refine pm_putF (ci := 2) (v := .int p4) (ty := .int) (C := cn_T) (T := cf_T) (N := 6) hx hb hg gu_T ct_T co_T cm_T hown hK.2.1 hw f6 rfl 3 (by decide) (hg _ gf_T_19) (fun _ h9 => h9) rfl hin rfl (by decide +kernel) rfl rfl (Nat.le_of_ble_eq_true rfl) dd_T_init_22 (fun H locs hw => ?_)
  have hw : pm_W z D cl_w (pm_up P5 h0 (.inr (2, [.int p1, .int p2, .int p3, .int p4, .int 0, .int 0]))) s.heap H _ := hw
  obtain ⟨P7, eP7⟩ : ∃ q : pm_T, q = pm_up P5 h0 (.inr (2, [.int p1, .int p2, .int p3, .int p4, .int 0, .int 0])) := ⟨_, rfl⟩
  rw [← eP7] at hw
  have f8 : P7 h0 = some (.inr (2, [.int p1, .int p2, .int p3, .int p4, .int 0, .int 0])) := by rw [eP7]; exact pm_s
  refine lv_aload_n hx hb dd_T_init_25 rfl (lv_at hl 0 rfl) ?_
  refine lv_iload hx hb dd_T_init_26 (lv_at hl 5 rfl) ?_
  refine pm_putF (ci := 2) (v := .int p5) (ty := .int) (C := cn_T) (T := cf_T) (N := 6) hx hb hg gu_T ct_T co_T cm_T hown hK.2.1 hw f8 rfl 4 (by decide) (hg _ gf_T_22) (fun _ h9 => h9) rfl hin rfl (by decide +kernel) rfl rfl (Nat.le_of_ble_eq_true rfl) dd_T_init_28 (fun H locs hw => ?_)
  have hw : pm_W z D cl_w (pm_up P7 h0 (.inr (2, [.int p1, .int p2, .int p3, .int p4, .int p5, .int 0]))) s.heap H _ := hw
  obtain ⟨P9, eP9⟩ : ∃ q : pm_T, q = pm_up P7 h0 (.inr (2, [.int p1, .int p2, .int p3, .int p4, .int p5, .int 0])) := ⟨_, rfl⟩
  rw [← eP9] at hw
  have f10 : P9 h0 = some (.inr (2, [.int p1, .int p2, .int p3, .int p4, .int p5, .int 0])) := by rw [eP9]; exact pm_s
  refine lv_aload_n hx hb dd_T_init_31 rfl (lv_at hl 0 rfl) ?_
  refine lv_iload hx hb dd_T_init_32 (lv_at hl 6 rfl) ?_
  refine pm_putF (ci := 2) (v := .int p6) (ty := .int) (C := cn_T) (T := cf_T) (N := 6) hx hb hg gu_T ct_T co_T cm_T hown hK.2.1 hw f10 rfl 5 (by decide) (hg _ gf_T_25) (fun _ h9 => h9) rfl hin rfl (by decide +kernel) rfl rfl (Nat.le_of_ble_eq_true rfl) dd_T_init_34 (fun H locs hw => ?_)
  have hw : pm_W z D cl_w (pm_up P9 h0 (.inr (2, [.int p1, .int p2, .int p3, .int p4, .int p5, .int p6]))) s.heap H _ := hw
  obtain ⟨P11, eP11⟩ : ∃ q : pm_T, q = pm_up P9 h0 (.inr (2, [.int p1, .int p2, .int p3, .int p4, .int p5, .int p6])) := ⟨_, rfl⟩
  rw [← eP11] at hw
  have f12 : P11 h0 = some (.inr (2, [.int p1, .int p2, .int p3, .int p4, .int p5, .int p6])) := by rw [eP11]; exact pm_s
  refine cx_vret hx hb hr hlocks hw dd_T_init_37 (by decide) (by decide) ?_
  exact ⟨rfl, by simp only [eP11, eP9, eP7, eP5, eP3, eP1, pm_uu]⟩

set_option maxHeartbeats 4000000 in
set_option maxRecDepth 100000 in
theorem c_O_init (l : Launch) (z : Nat) (D : va_G) (ac : Nat → ClassId) (sa : Nat → Nat) (P : pm_T) (h0 : Nat) (p1 p2 : Int32) (f0 : P h0 = some (.inr (3, [.int 0, .int 0]))) : cx_M l yy_O_init bb_O_init 3 none ({ frames := 1, cells := 0, slots := 0, locals := 12 } : Room) z D ac sa P [.ref h0, .int p1, .int p2] (fun v P' => v = none ∧ P' = pm_up P h0 (.inr (3, [.int p1, .int p2]))) := by
  refine cx_ofM (by decide) (Nat.le_of_ble_eq_true rfl) (fun p e s m below meth c ls hx hb hr hml hg hown hlocks hin hK hw hl => ?_)
  have hl : lv_has ls 3 [(0, .ref h0), (1, .int p1), (2, .int p2)] := hl
  have hown : s.vm.findClass cn_O = some m.cls := hown
  refine lv_aload_n hx hb dd_O_init_0 rfl (lv_at hl 0 rfl) ?_
  refine W.objInit hx hb hown (hg _ gm_O_1) (hg _ gi_objectInit) (hg _ gc_objectInit) rfl (by rw [hml]; exact hl.1) rfl dd_O_init_1 (Nat.le_of_ble_eq_true rfl) (Nat.le_of_ble_eq_true rfl) ?_
  refine W.eq (g2 := F0 m 4 ls []) rfl ?_
  refine lv_aload_n hx hb dd_O_init_4 rfl (lv_at hl 0 rfl) ?_
  refine lv_iload_n hx hb dd_O_init_5 rfl (lv_at hl 1 rfl) ?_
  refine pm_putF (ci := 3) (v := .int p1) (ty := .int) (C := cn_O) (T := cf_O) (N := 2) hx hb hg gu_O ct_O co_O cm_O hown hK.2.1 hw f0 rfl 0 (by decide) (hg _ gf_O_7) (fun _ h9 => h9) rfl hin rfl (by decide +kernel) rfl rfl (Nat.le_of_ble_eq_true rfl) dd_O_init_6 (fun H locs hw => ?_)
  have hw : pm_W z D cl_w (pm_up P h0 (.inr (3, [.int p1, .int 0]))) s.heap H _ := hw
  obtain ⟨P1, eP1⟩ : ∃ q : pm_T, q = pm_up P h0 (.inr (3, [.int p1, .int 0])) := ⟨_, rfl⟩
  rw [← eP1] at hw
  have f2 : P1 h0 = some (.inr (3, [.int p1, .int 0])) := by rw [eP1]; exact pm_s
  refine lv_aload_n hx hb dd_O_init_9 rfl (lv_at hl 0 rfl) ?_
  refine lv_iload_n hx hb dd_O_init_10 rfl (lv_at hl 2 rfl) ?_
  refine pm_putF (ci := 3) (v := .int p2) (ty := .int) (C := cn_O) (T := cf_O) (N := 2) hx hb hg gu_O ct_O co_O cm_O hown hK.2.1 hw f2 rfl 1 (by decide) (hg _ gf_O_13) (fun _ h9 => h9) rfl hin rfl (by decide +kernel) rfl rfl (Nat.le_of_ble_eq_true rfl) dd_O_init_11 (fun H locs hw => ?_)
  have hw : pm_W z D cl_w (pm_up P1 h0 (.inr (3, [.int p1, .int p2]))) s.heap H _ := hw
  obtain ⟨P3, eP3⟩ : ∃ q : pm_T, q = pm_up P1 h0 (.inr (3, [.int p1, .int p2])) := ⟨_, rfl⟩
  rw [← eP3] at hw
  have f4 : P3 h0 = some (.inr (3, [.int p1, .int p2])) := by rw [eP3]; exact pm_s
  refine cx_vret hx hb hr hlocks hw dd_O_init_14 (by decide) (by decide) ?_
  exact ⟨rfl, by simp only [eP3, eP1, pm_uu]⟩

set_option maxHeartbeats 4000000 in
set_option maxRecDepth 100000 in
theorem c_H_init (l : Launch) (z : Nat) (D : va_G) (ac : Nat → ClassId) (sa : Nat → Nat) (P : pm_T) (h0 : Nat) (p1 p2 p3 p4 p5 : Int32) (f0 : P h0 = some (.inr (1, [.int 0, .int 0, .int 0, .int 0, .int 0, .null, .int 0, .int 0, .int 0, .int 0, .null]))) : cx_M l yy_H_init bb_H_init 6 none ({ frames := 1, cells := 1, slots := 3, locals := 12 } : Room) z D ac sa P [.ref h0, .int p1, .int p2, .int p3, .int p4, .int p5] (fun v P' => v = none ∧ ∃ q : Nat, P q = none ∧ P' = pm_up (pm_up P q (.inl (ac 5, 3, .inr (.inr (.inr (.inr (fun _ => none))))))) h0 (.inr (1, [.int p1, .int p2, .int p3, .int p4, .int p5, .ref q, .int 0, .int 0, .int 0, .int 0, .null]))) := by
  refine cx_ofM (by decide) (Nat.le_of_ble_eq_true rfl) (fun p e s m below meth c ls hx hb hr hml hg hown hlocks hin hK hw hl => ?_)
  have hl : lv_has ls 6 [(0, .ref h0), (1, .int p1), (2, .int p2), (3, .int p3), (4, .int p4), (5, .int p5)] := hl
  have hown : s.vm.findClass cn_H = some m.cls := hown
  refine lv_aload_n hx hb dd_H_init_0 rfl (lv_at hl 0 rfl) ?_
  refine W.objInit hx hb hown (hg _ gm_H_3) (hg _ gi_objectInit) (hg _ gc_objectInit) rfl (by rw [hml]; exact hl.1) rfl dd_H_init_1 (Nat.le_of_ble_eq_true rfl) (Nat.le_of_ble_eq_true rfl) ?_
  refine W.eq (g2 := F0 m 4 ls []) rfl ?_
  refine lv_aload_n hx hb dd_H_init_4 rfl (lv_at hl 0 rfl) ?_
  refine lv_iconst (v := 3) hx hb dd_H_init_5 (by decide) ?_
  refine pm_newq (N' := 3) hx hb hown (hg _ gk_H_9) (hK.2.2.2.2.2.2 _ (by decide +kernel)) hK.2.1 hw 5 rfl (by decide) (by decide) (by decide) (Nat.le_of_ble_eq_true rfl) (Nat.le_of_ble_eq_true rfl) dd_H_init_6 (fun q1 H hnq1 hw => ?_)
  have hw : pm_W z D cl_w (pm_up P q1 (.inl (ac 5, 3, .inr (.inr (.inr (.inr (fun _ => none))))))) s.heap H _ := hw
  obtain ⟨P2, eP2⟩ : ∃ q : pm_T, q = pm_up P q1 (.inl (ac 5, 3, .inr (.inr (.inr (.inr (fun _ => none)))))) := ⟨_, rfl⟩
  rw [← eP2] at hw
  have f3 : P2 h0 = some (.inr (1, [.int 0, .int 0, .int 0, .int 0, .int 0, .null, .int 0, .int 0, .int 0, .int 0, .null])) := by rw [eP2, pm_n (pm_nx f0 hnq1)]; exact f0
  have f4 : P2 q1 = some (.inl (ac 5, 3, .inr (.inr (.inr (.inr (fun _ => none)))))) := by rw [eP2]; exact pm_s
  refine pm_putF (ci := 1) (v := .ref q1) (ty := .array (.object "HydrantRows$Works")) (C := cn_H) (T := cf_H) (N := 11) hx hb hg gu_H ct_H co_H cm_H hown hK.2.1 hw f3 rfl 5 (by decide) (hg _ gf_H_11) (fun _ h9 => h9) rfl hin rfl (by decide +kernel) rfl rfl (Nat.le_of_ble_eq_true rfl) dd_H_init_9 (fun H locs hw => ?_)
  have hw : pm_W z D cl_w (pm_up P2 h0 (.inr (1, [.int 0, .int 0, .int 0, .int 0, .int 0, .ref q1, .int 0, .int 0, .int 0, .int 0, .null]))) s.heap H _ := hw
  obtain ⟨P5, eP5⟩ : ∃ q : pm_T, q = pm_up P2 h0 (.inr (1, [.int 0, .int 0, .int 0, .int 0, .int 0, .ref q1, .int 0, .int 0, .int 0, .int 0, .null])) := ⟨_, rfl⟩
  rw [← eP5] at hw
  have f6 : P5 q1 = some (.inl (ac 5, 3, .inr (.inr (.inr (.inr (fun _ => none)))))) := by rw [eP5, pm_n (pm_ne f4 f3 (by simp))]; exact f4
  have f7 : P5 h0 = some (.inr (1, [.int 0, .int 0, .int 0, .int 0, .int 0, .ref q1, .int 0, .int 0, .int 0, .int 0, .null])) := by rw [eP5]; exact pm_s
  refine lv_aload_n hx hb dd_H_init_12 rfl (lv_at hl 0 rfl) ?_
  refine lv_iconst (v := 0) hx hb dd_H_init_13 (by decide) ?_
  refine pm_put (ci := 1) (v := .int (0 : Int32)) (ty := .int) (C := cn_H) (T := cf_H) (N := 11) hx hb hg gu_H ct_H co_H cm_H hown hK.2.1 hw f7 rfl 6 (by decide) (hg _ gf_H_17) (fun _ h9 => h9) rfl (by decide +kernel) rfl rfl (Nat.le_of_ble_eq_true rfl) dd_H_init_14 (fun H locs hw => ?_)
  have hw : pm_W z D cl_w (pm_up P5 h0 (.inr (1, [.int 0, .int 0, .int 0, .int 0, .int 0, .ref q1, .int (0 : Int32), .int 0, .int 0, .int 0, .null]))) s.heap H _ := hw
  obtain ⟨P8, eP8⟩ : ∃ q : pm_T, q = pm_up P5 h0 (.inr (1, [.int 0, .int 0, .int 0, .int 0, .int 0, .ref q1, .int (0 : Int32), .int 0, .int 0, .int 0, .null])) := ⟨_, rfl⟩
  rw [← eP8] at hw
  have f9 : P8 q1 = some (.inl (ac 5, 3, .inr (.inr (.inr (.inr (fun _ => none)))))) := by rw [eP8, pm_n (pm_ne f6 f7 (by simp))]; exact f6
  have f10 : P8 h0 = some (.inr (1, [.int 0, .int 0, .int 0, .int 0, .int 0, .ref q1, .int (0 : Int32), .int 0, .int 0, .int 0, .null])) := by rw [eP8]; exact pm_s
  refine lv_aload_n hx hb dd_H_init_17 rfl (lv_at hl 0 rfl) ?_
  refine lv_iconst (v := 0) hx hb dd_H_init_18 (by decide) ?_
  refine pm_put (ci := 1) (v := .int (0 : Int32)) (ty := .int) (C := cn_H) (T := cf_H) (N := 11) hx hb hg gu_H ct_H co_H cm_H hown hK.2.1 hw f10 rfl 7 (by decide) (hg _ gf_H_21) (fun _ h9 => h9) rfl (by decide +kernel) rfl rfl (Nat.le_of_ble_eq_true rfl) dd_H_init_19 (fun H locs hw => ?_)
  have hw : pm_W z D cl_w (pm_up P8 h0 (.inr (1, [.int 0, .int 0, .int 0, .int 0, .int 0, .ref q1, .int (0 : Int32), .int (0 : Int32), .int 0, .int 0, .null]))) s.heap H _ := hw
  obtain ⟨P11, eP11⟩ : ∃ q : pm_T, q = pm_up P8 h0 (.inr (1, [.int 0, .int 0, .int 0, .int 0, .int 0, .ref q1, .int (0 : Int32), .int (0 : Int32), .int 0, .int 0, .null])) := ⟨_, rfl⟩
  rw [← eP11] at hw
  have f12 : P11 q1 = some (.inl (ac 5, 3, .inr (.inr (.inr (.inr (fun _ => none)))))) := by rw [eP11, pm_n (pm_ne f9 f10 (by simp))]; exact f9
  have f13 : P11 h0 = some (.inr (1, [.int 0, .int 0, .int 0, .int 0, .int 0, .ref q1, .int (0 : Int32), .int (0 : Int32), .int 0, .int 0, .null])) := by rw [eP11]; exact pm_s
  refine lv_aload_n hx hb dd_H_init_22 rfl (lv_at hl 0 rfl) ?_
  refine lv_iconst (v := 0) hx hb dd_H_init_23 (by decide) ?_
  refine pm_put (ci := 1) (v := .int (0 : Int32)) (ty := .int) (C := cn_H) (T := cf_H) (N := 11) hx hb hg gu_H ct_H co_H cm_H hown hK.2.1 hw f13 rfl 8 (by decide) (hg _ gf_H_24) (fun _ h9 => h9) rfl (by decide +kernel) rfl rfl (Nat.le_of_ble_eq_true rfl) dd_H_init_24 (fun H locs hw => ?_)
  have hw : pm_W z D cl_w (pm_up P11 h0 (.inr (1, [.int 0, .int 0, .int 0, .int 0, .int 0, .ref q1, .int (0 : Int32), .int (0 : Int32), .int (0 : Int32), .int 0, .null]))) s.heap H _ := hw
  obtain ⟨P14, eP14⟩ : ∃ q : pm_T, q = pm_up P11 h0 (.inr (1, [.int 0, .int 0, .int 0, .int 0, .int 0, .ref q1, .int (0 : Int32), .int (0 : Int32), .int (0 : Int32), .int 0, .null])) := ⟨_, rfl⟩
  rw [← eP14] at hw
  have f15 : P14 q1 = some (.inl (ac 5, 3, .inr (.inr (.inr (.inr (fun _ => none)))))) := by rw [eP14, pm_n (pm_ne f12 f13 (by simp))]; exact f12
  have f16 : P14 h0 = some (.inr (1, [.int 0, .int 0, .int 0, .int 0, .int 0, .ref q1, .int (0 : Int32), .int (0 : Int32), .int (0 : Int32), .int 0, .null])) := by rw [eP14]; exact pm_s
  refine lv_aload_n hx hb dd_H_init_27 rfl (lv_at hl 0 rfl) ?_
  refine lv_iconst (v := 0) hx hb dd_H_init_28 (by decide) ?_
  refine pm_put (ci := 1) (v := .int (0 : Int32)) (ty := .int) (C := cn_H) (T := cf_H) (N := 11) hx hb hg gu_H ct_H co_H cm_H hown hK.2.1 hw f16 rfl 9 (by decide) (hg _ gf_H_27) (fun _ h9 => h9) rfl (by decide +kernel) rfl rfl (Nat.le_of_ble_eq_true rfl) dd_H_init_29 (fun H locs hw => ?_)
  have hw : pm_W z D cl_w (pm_up P14 h0 (.inr (1, [.int 0, .int 0, .int 0, .int 0, .int 0, .ref q1, .int (0 : Int32), .int (0 : Int32), .int (0 : Int32), .int (0 : Int32), .null]))) s.heap H _ := hw
  obtain ⟨P17, eP17⟩ : ∃ q : pm_T, q = pm_up P14 h0 (.inr (1, [.int 0, .int 0, .int 0, .int 0, .int 0, .ref q1, .int (0 : Int32), .int (0 : Int32), .int (0 : Int32), .int (0 : Int32), .null])) := ⟨_, rfl⟩
  rw [← eP17] at hw
  have f18 : P17 q1 = some (.inl (ac 5, 3, .inr (.inr (.inr (.inr (fun _ => none)))))) := by rw [eP17, pm_n (pm_ne f15 f16 (by simp))]; exact f15
  have f19 : P17 h0 = some (.inr (1, [.int 0, .int 0, .int 0, .int 0, .int 0, .ref q1, .int (0 : Int32), .int (0 : Int32), .int (0 : Int32), .int (0 : Int32), .null])) := by rw [eP17]; exact pm_s
  refine lv_aload_n hx hb dd_H_init_32 rfl (lv_at hl 0 rfl) ?_
  refine lv_null hx hb dd_H_init_33 ?_
  refine pm_put (ci := 1) (v := .null) (ty := .object "HydrantRows$Test") (C := cn_H) (T := cf_H) (N := 11) hx hb hg gu_H ct_H co_H cm_H hown hK.2.1 hw f19 rfl 10 (by decide) (hg _ gf_H_30) (fun _ h9 => h9) rfl (by decide +kernel) rfl rfl (Nat.le_of_ble_eq_true rfl) dd_H_init_34 (fun H locs hw => ?_)
  have hw : pm_W z D cl_w (pm_up P17 h0 (.inr (1, [.int 0, .int 0, .int 0, .int 0, .int 0, .ref q1, .int (0 : Int32), .int (0 : Int32), .int (0 : Int32), .int (0 : Int32), .null]))) s.heap H _ := hw
  obtain ⟨P20, eP20⟩ : ∃ q : pm_T, q = pm_up P17 h0 (.inr (1, [.int 0, .int 0, .int 0, .int 0, .int 0, .ref q1, .int (0 : Int32), .int (0 : Int32), .int (0 : Int32), .int (0 : Int32), .null])) := ⟨_, rfl⟩
  rw [← eP20] at hw
  have f21 : P20 q1 = some (.inl (ac 5, 3, .inr (.inr (.inr (.inr (fun _ => none)))))) := by rw [eP20, pm_n (pm_ne f18 f19 (by simp))]; exact f18
  have f22 : P20 h0 = some (.inr (1, [.int 0, .int 0, .int 0, .int 0, .int 0, .ref q1, .int (0 : Int32), .int (0 : Int32), .int (0 : Int32), .int (0 : Int32), .null])) := by rw [eP20]; exact pm_s
  refine lv_aload_n hx hb dd_H_init_37 rfl (lv_at hl 0 rfl) ?_
  refine lv_iload_n hx hb dd_H_init_38 rfl (lv_at hl 1 rfl) ?_
  refine pm_putF (ci := 1) (v := .int p1) (ty := .int) (C := cn_H) (T := cf_H) (N := 11) hx hb hg gu_H ct_H co_H cm_H hown hK.2.1 hw f22 rfl 0 (by decide) (hg _ gf_H_34) (fun _ h9 => h9) rfl hin rfl (by decide +kernel) rfl rfl (Nat.le_of_ble_eq_true rfl) dd_H_init_39 (fun H locs hw => ?_)
  have hw : pm_W z D cl_w (pm_up P20 h0 (.inr (1, [.int p1, .int 0, .int 0, .int 0, .int 0, .ref q1, .int (0 : Int32), .int (0 : Int32), .int (0 : Int32), .int (0 : Int32), .null]))) s.heap H _ := hw
  obtain ⟨P23, eP23⟩ : ∃ q : pm_T, q = pm_up P20 h0 (.inr (1, [.int p1, .int 0, .int 0, .int 0, .int 0, .ref q1, .int (0 : Int32), .int (0 : Int32), .int (0 : Int32), .int (0 : Int32), .null])) := ⟨_, rfl⟩
  rw [← eP23] at hw
  have f24 : P23 q1 = some (.inl (ac 5, 3, .inr (.inr (.inr (.inr (fun _ => none)))))) := by rw [eP23, pm_n (pm_ne f21 f22 (by simp))]; exact f21
  have f25 : P23 h0 = some (.inr (1, [.int p1, .int 0, .int 0, .int 0, .int 0, .ref q1, .int (0 : Int32), .int (0 : Int32), .int (0 : Int32), .int (0 : Int32), .null])) := by rw [eP23]; exact pm_s
  refine lv_aload_n hx hb dd_H_init_42 rfl (lv_at hl 0 rfl) ?_
  refine lv_iload_n hx hb dd_H_init_43 rfl (lv_at hl 2 rfl) ?_
  refine pm_putF (ci := 1) (v := .int p2) (ty := .int) (C := cn_H) (T := cf_H) (N := 11) hx hb hg gu_H ct_H co_H cm_H hown hK.2.1 hw f25 rfl 1 (by decide) (hg _ gf_H_37) (fun _ h9 => h9) rfl hin rfl (by decide +kernel) rfl rfl (Nat.le_of_ble_eq_true rfl) dd_H_init_44 (fun H locs hw => ?_)
  have hw : pm_W z D cl_w (pm_up P23 h0 (.inr (1, [.int p1, .int p2, .int 0, .int 0, .int 0, .ref q1, .int (0 : Int32), .int (0 : Int32), .int (0 : Int32), .int (0 : Int32), .null]))) s.heap H _ := hw
  obtain ⟨P26, eP26⟩ : ∃ q : pm_T, q = pm_up P23 h0 (.inr (1, [.int p1, .int p2, .int 0, .int 0, .int 0, .ref q1, .int (0 : Int32), .int (0 : Int32), .int (0 : Int32), .int (0 : Int32), .null])) := ⟨_, rfl⟩
  rw [← eP26] at hw
  have f27 : P26 q1 = some (.inl (ac 5, 3, .inr (.inr (.inr (.inr (fun _ => none)))))) := by rw [eP26, pm_n (pm_ne f24 f25 (by simp))]; exact f24
  have f28 : P26 h0 = some (.inr (1, [.int p1, .int p2, .int 0, .int 0, .int 0, .ref q1, .int (0 : Int32), .int (0 : Int32), .int (0 : Int32), .int (0 : Int32), .null])) := by rw [eP26]; exact pm_s
  refine lv_aload_n hx hb dd_H_init_47 rfl (lv_at hl 0 rfl) ?_
  refine lv_iload_n hx hb dd_H_init_48 rfl (lv_at hl 3 rfl) ?_
  refine pm_putF (ci := 1) (v := .int p3) (ty := .int) (C := cn_H) (T := cf_H) (N := 11) hx hb hg gu_H ct_H co_H cm_H hown hK.2.1 hw f28 rfl 2 (by decide) (hg _ gf_H_40) (fun _ h9 => h9) rfl hin rfl (by decide +kernel) rfl rfl (Nat.le_of_ble_eq_true rfl) dd_H_init_49 (fun H locs hw => ?_)
  have hw : pm_W z D cl_w (pm_up P26 h0 (.inr (1, [.int p1, .int p2, .int p3, .int 0, .int 0, .ref q1, .int (0 : Int32), .int (0 : Int32), .int (0 : Int32), .int (0 : Int32), .null]))) s.heap H _ := hw
  obtain ⟨P29, eP29⟩ : ∃ q : pm_T, q = pm_up P26 h0 (.inr (1, [.int p1, .int p2, .int p3, .int 0, .int 0, .ref q1, .int (0 : Int32), .int (0 : Int32), .int (0 : Int32), .int (0 : Int32), .null])) := ⟨_, rfl⟩
  rw [← eP29] at hw
  have f30 : P29 q1 = some (.inl (ac 5, 3, .inr (.inr (.inr (.inr (fun _ => none)))))) := by rw [eP29, pm_n (pm_ne f27 f28 (by simp))]; exact f27
  have f31 : P29 h0 = some (.inr (1, [.int p1, .int p2, .int p3, .int 0, .int 0, .ref q1, .int (0 : Int32), .int (0 : Int32), .int (0 : Int32), .int (0 : Int32), .null])) := by rw [eP29]; exact pm_s
  refine lv_aload_n hx hb dd_H_init_52 rfl (lv_at hl 0 rfl) ?_
  refine lv_iload hx hb dd_H_init_53 (lv_at hl 4 rfl) ?_
  refine pm_putF (ci := 1) (v := .int p4) (ty := .int) (C := cn_H) (T := cf_H) (N := 11) hx hb hg gu_H ct_H co_H cm_H hown hK.2.1 hw f31 rfl 3 (by decide) (hg _ gf_H_43) (fun _ h9 => h9) rfl hin rfl (by decide +kernel) rfl rfl (Nat.le_of_ble_eq_true rfl) dd_H_init_55 (fun H locs hw => ?_)
  have hw : pm_W z D cl_w (pm_up P29 h0 (.inr (1, [.int p1, .int p2, .int p3, .int p4, .int 0, .ref q1, .int (0 : Int32), .int (0 : Int32), .int (0 : Int32), .int (0 : Int32), .null]))) s.heap H _ := hw
  obtain ⟨P32, eP32⟩ : ∃ q : pm_T, q = pm_up P29 h0 (.inr (1, [.int p1, .int p2, .int p3, .int p4, .int 0, .ref q1, .int (0 : Int32), .int (0 : Int32), .int (0 : Int32), .int (0 : Int32), .null])) := ⟨_, rfl⟩
  rw [← eP32] at hw
  have f33 : P32 q1 = some (.inl (ac 5, 3, .inr (.inr (.inr (.inr (fun _ => none)))))) := by rw [eP32, pm_n (pm_ne f30 f31 (by simp))]; exact f30
  have f34 : P32 h0 = some (.inr (1, [.int p1, .int p2, .int p3, .int p4, .int 0, .ref q1, .int (0 : Int32), .int (0 : Int32), .int (0 : Int32), .int (0 : Int32), .null])) := by rw [eP32]; exact pm_s
  refine lv_aload_n hx hb dd_H_init_58 rfl (lv_at hl 0 rfl) ?_
  refine lv_iload hx hb dd_H_init_59 (lv_at hl 5 rfl) ?_
  refine pm_putF (ci := 1) (v := .int p5) (ty := .int) (C := cn_H) (T := cf_H) (N := 11) hx hb hg gu_H ct_H co_H cm_H hown hK.2.1 hw f34 rfl 4 (by decide) (hg _ gf_H_46) (fun _ h9 => h9) rfl hin rfl (by decide +kernel) rfl rfl (Nat.le_of_ble_eq_true rfl) dd_H_init_61 (fun H locs hw => ?_)
  have hw : pm_W z D cl_w (pm_up P32 h0 (.inr (1, [.int p1, .int p2, .int p3, .int p4, .int p5, .ref q1, .int (0 : Int32), .int (0 : Int32), .int (0 : Int32), .int (0 : Int32), .null]))) s.heap H _ := hw
  obtain ⟨P35, eP35⟩ : ∃ q : pm_T, q = pm_up P32 h0 (.inr (1, [.int p1, .int p2, .int p3, .int p4, .int p5, .ref q1, .int (0 : Int32), .int (0 : Int32), .int (0 : Int32), .int (0 : Int32), .null])) := ⟨_, rfl⟩
  rw [← eP35] at hw
  have f36 : P35 q1 = some (.inl (ac 5, 3, .inr (.inr (.inr (.inr (fun _ => none)))))) := by rw [eP35, pm_n (pm_ne f33 f34 (by simp))]; exact f33
  have f37 : P35 h0 = some (.inr (1, [.int p1, .int p2, .int p3, .int p4, .int p5, .ref q1, .int (0 : Int32), .int (0 : Int32), .int (0 : Int32), .int (0 : Int32), .null])) := by rw [eP35]; exact pm_s
  refine cx_vret hx hb hr hlocks hw dd_H_init_64 (by decide) (by decide) ?_
  exact ⟨rfl, q1, hnq1, by simp only [eP35, eP32, eP29, eP26, eP23, eP20, eP17, eP14, eP11, eP8, eP5, eP2, pm_uu]⟩

set_option maxHeartbeats 4000000 in
set_option maxRecDepth 100000 in
theorem c_H_addWorks (l : Launch) (z : Nat) (D : va_G) (ac : Nat → ClassId) (sa : Nat → Nat) (P : pm_T) (h0 aw : Nat) (vn vx vy vm vk vc vd vr vt : Int32) (ct : Option Nat) (fw : Nat → Option Nat) (p1 p2 : Int32) (f0 : P h0 = some (.inr (1, [.int vn, .int vx, .int vy, .int vm, .int vk, .ref aw, .int vc, .int vd, .int vr, .int vt, va_rf ct]))) (f1 : P aw = some (.inl (ac 5, 3, .inr (.inr (.inr (.inr fw)))))) : cx_M l yy_H_addWorks bb_H_addWorks 3 (some .boolean) ({ frames := 2, cells := 1, slots := 2, locals := 34 } : Room) z D ac sa P [.ref h0, .int p1, .int p2] (fun v P' => if vc < 0 then v = some (.int 0) ∧ P' = P else if vc < 3 then v = some (.int 1) ∧ ∃ q : Nat, P q = none ∧ P' = pm_up (pm_up (pm_up P q (.inr (3, [.int p1, .int p2]))) aw (.inl (ac 5, 3, .inr (.inr (.inr (.inr (va_up fw vc.toNatClampNeg (some q)))))))) h0 (.inr (1, [.int vn, .int vx, .int vy, .int vm, .int vk, .ref aw, .int (vc + 1), .int vd, .int vr, .int vt, va_rf ct])) else v = some (.int 0) ∧ P' = P) := by
  refine cx_ofM (by decide) (Nat.le_of_ble_eq_true rfl) (fun p e s m below meth c ls hx hb hr hml hg hown hlocks hin hK hw hl => ?_)
  have hl : lv_has ls 3 [(0, .ref h0), (1, .int p1), (2, .int p2)] := hl
  have hown : s.vm.findClass cn_H = some m.cls := hown
  refine lv_aload_n hx hb dd_H_addWorks_0 rfl (lv_at hl 0 rfl) ?_
  refine pm_get (ci := 1) (C := cn_H) (T := cf_H) (N := 11) (v := .int vc) hx hb hg gu_H hown hK.2.1 hw f0 rfl 6 (by decide) (hg _ gf_H_17) (fun _ h9 => h9) rfl dd_H_addWorks_1 ?_
  refine lv_if_lt (tgt := 19) hx hb dd_H_addWorks_4 (by decide) (fun c1 => ?_) (fun c1 => ?_)
  · skip
    refine lv_iconst (v := 0) hx hb dd_H_addWorks_19 (by decide) ?_
    refine cx_iret (v := (0 : Int32)) hx hb hr (by decide) hlocks hw dd_H_addWorks_20 (by decide) (by decide) ?_
    rw [if_pos c1]
    exact ⟨rfl, rfl⟩
  · skip
    refine lv_aload_n hx hb dd_H_addWorks_7 rfl (lv_at hl 0 rfl) ?_
    refine pm_get (ci := 1) (C := cn_H) (T := cf_H) (N := 11) (v := .int vc) hx hb hg gu_H hown hK.2.1 hw f0 rfl 6 (by decide) (hg _ gf_H_17) (fun _ h9 => h9) rfl dd_H_addWorks_8 ?_
    refine lv_aload_n hx hb dd_H_addWorks_11 rfl (lv_at hl 0 rfl) ?_
    refine pm_get (ci := 1) (C := cn_H) (T := cf_H) (N := 11) (v := .ref aw) hx hb hg gu_H hown hK.2.1 hw f0 rfl 5 (by decide) (hg _ gf_H_11) (fun _ h9 => h9) rfl dd_H_addWorks_12 ?_
    refine pm_alen (v := 3) hx hb hK.2.1 hw 5 f1 rfl rfl dd_H_addWorks_15 ?_
    refine lv_icmp_lt (tgt := 21) hx hb dd_H_addWorks_16 (by decide) (fun c2 => ?_) (fun c2 => ?_)
    · skip
      refine lv_aload_n hx hb dd_H_addWorks_21 rfl (lv_at hl 0 rfl) ?_
      refine pm_get (ci := 1) (C := cn_H) (T := cf_H) (N := 11) (v := .ref aw) hx hb hg gu_H hown hK.2.1 hw f0 rfl 5 (by decide) (hg _ gf_H_11) (fun _ h9 => h9) rfl dd_H_addWorks_22 ?_
      refine lv_aload_n hx hb dd_H_addWorks_25 rfl (lv_at hl 0 rfl) ?_
      refine pm_get (ci := 1) (C := cn_H) (T := cf_H) (N := 11) (v := .int vc) hx hb hg gu_H hown hK.2.1 hw f0 rfl 6 (by decide) (hg _ gf_H_17) (fun _ h9 => h9) rfl dd_H_addWorks_26 ?_
      refine pm_new (ci := 3) (fs := [.int 0, .int 0]) (C := cn_O) (T := cf_O) (N := 2) hx hb hg gu_O ct_O co_O hown (hg _ gk_H_9) (hg _ gx_O) (hg _ gn_O) hK.2.1 hw rfl (by decide +kernel) (Nat.le_of_ble_eq_true rfl) (Nat.le_of_ble_eq_true rfl) dd_H_addWorks_29 (fun q3 H hnq3 hw => ?_)
      have hw : pm_W z D cl_w (pm_up P q3 (.inr (3, [.int 0, .int 0]))) s.heap H _ := hw
      obtain ⟨P4, eP4⟩ : ∃ q : pm_T, q = pm_up P q3 (.inr (3, [.int 0, .int 0])) := ⟨_, rfl⟩
      rw [← eP4] at hw
      have f5 : P4 h0 = some (.inr (1, [.int vn, .int vx, .int vy, .int vm, .int vk, .ref aw, .int vc, .int vd, .int vr, .int vt, va_rf ct])) := by rw [eP4, pm_n (pm_nx f0 hnq3)]; exact f0
      have f6 : P4 aw = some (.inl (ac 5, 3, .inr (.inr (.inr (.inr fw))))) := by rw [eP4, pm_n (pm_nx f1 hnq3)]; exact f1
      have f7 : P4 q3 = some (.inr (3, [.int 0, .int 0])) := by rw [eP4]; exact pm_s
      refine lv_dup hx hb dd_H_addWorks_32 rfl ?_
      refine lv_iload_n hx hb dd_H_addWorks_33 rfl (lv_at hl 1 rfl) ?_
      refine lv_iload_n hx hb dd_H_addWorks_34 rfl (lv_at hl 2 rfl) ?_
      refine cx_after (cx_rI (n := 2) (As := [.int p1, .int p2]) (rest := [.ref q3, .int vc, .ref aw]) ⟨hx, hb, hml, hown, hg⟩ (c_O_init l z D ac sa P4 q3 p1 p2 f7) gc_O_init gm_H_59 gi_O_init gn_O rfl (by decide +kernel) ⟨by decide, by decide⟩ hK hw rfl hl.1 rfl (Nat.le_of_ble_eq_true rfl) dd_H_addWorks_35 ⟨by decide, by decide⟩) hw (fun v9 P9 H locs hp hw => ?_)
      obtain ⟨rfl, e9⟩ := hp
      rw [e9] at hw
      clear e9 P9
      refine W.eq (g2 := F0 m 38 ls [.ref q3, .int vc, .ref aw]) rfl ?_
      have hw : pm_W z D cl_w (pm_up P4 q3 (.inr (3, [.int p1, .int p2]))) s.heap H _ := hw
      obtain ⟨P8, eP8⟩ : ∃ q : pm_T, q = pm_up P4 q3 (.inr (3, [.int p1, .int p2])) := ⟨_, rfl⟩
      rw [← eP8] at hw
      have f9 : P8 h0 = some (.inr (1, [.int vn, .int vx, .int vy, .int vm, .int vk, .ref aw, .int vc, .int vd, .int vr, .int vt, va_rf ct])) := by rw [eP8, pm_n (pm_ne f5 f7 (by simp))]; exact f5
      have f10 : P8 aw = some (.inl (ac 5, 3, .inr (.inr (.inr (.inr fw))))) := by rw [eP8, pm_n (pm_ne f6 f7 (by simp))]; exact f6
      have f11 : P8 q3 = some (.inr (3, [.int p1, .int p2])) := by rw [eP8]; exact pm_s
      refine pm_aast (r := (cn_O, cf_O, 2)) hx hb hK.2.1 hw 5 3 f10 rfl f11 rfl (vp_in_lt c1 c2) dd_H_addWorks_38 (fun H locs hw => ?_)
      have hw : pm_W z D cl_w (pm_up P8 aw (.inl (ac 5, 3, .inr (.inr (.inr (.inr (va_up fw vc.toNatClampNeg (some q3)))))))) s.heap H _ := hw
      obtain ⟨P12, eP12⟩ : ∃ q : pm_T, q = pm_up P8 aw (.inl (ac 5, 3, .inr (.inr (.inr (.inr (va_up fw vc.toNatClampNeg (some q3))))))) := ⟨_, rfl⟩
      rw [← eP12] at hw
      have f13 : P12 h0 = some (.inr (1, [.int vn, .int vx, .int vy, .int vm, .int vk, .ref aw, .int vc, .int vd, .int vr, .int vt, va_rf ct])) := by rw [eP12, pm_n (pm_ne f9 f10 (by simp))]; exact f9
      have f14 : P12 q3 = some (.inr (3, [.int p1, .int p2])) := by rw [eP12, pm_n (pm_ne f11 f10 (by simp))]; exact f11
      have f15 : P12 aw = some (.inl (ac 5, 3, .inr (.inr (.inr (.inr (va_up fw vc.toNatClampNeg (some q3))))))) := by rw [eP12]; exact pm_s
      refine lv_aload_n hx hb dd_H_addWorks_39 rfl (lv_at hl 0 rfl) ?_
      refine lv_dup hx hb dd_H_addWorks_40 rfl ?_
      refine pm_get (ci := 1) (C := cn_H) (T := cf_H) (N := 11) (v := .int vc) hx hb hg gu_H hown hK.2.1 hw f13 rfl 6 (by decide) (hg _ gf_H_17) (fun _ h9 => h9) rfl dd_H_addWorks_41 ?_
      refine lv_iconst (v := 1) hx hb dd_H_addWorks_44 (by decide) ?_
      refine lv_iadd hx hb dd_H_addWorks_45 ?_
      refine lv_topi (fun x16 ex16 => ?_)
      refine pm_put (ci := 1) (v := .int x16) (ty := .int) (C := cn_H) (T := cf_H) (N := 11) hx hb hg gu_H ct_H co_H cm_H hown hK.2.1 hw f13 rfl 6 (by decide) (hg _ gf_H_17) (fun _ h9 => h9) rfl (by decide +kernel) rfl rfl (Nat.le_of_ble_eq_true rfl) dd_H_addWorks_46 (fun H locs hw => ?_)
      have hw : pm_W z D cl_w (pm_up P12 h0 (.inr (1, [.int vn, .int vx, .int vy, .int vm, .int vk, .ref aw, .int x16, .int vd, .int vr, .int vt, va_rf ct]))) s.heap H _ := hw
      obtain ⟨P17, eP17⟩ : ∃ q : pm_T, q = pm_up P12 h0 (.inr (1, [.int vn, .int vx, .int vy, .int vm, .int vk, .ref aw, .int x16, .int vd, .int vr, .int vt, va_rf ct])) := ⟨_, rfl⟩
      rw [← eP17] at hw
      have f18 : P17 q3 = some (.inr (3, [.int p1, .int p2])) := by rw [eP17, pm_n (pm_ne f14 f13 (by simp))]; exact f14
      have f19 : P17 aw = some (.inl (ac 5, 3, .inr (.inr (.inr (.inr (va_up fw vc.toNatClampNeg (some q3))))))) := by rw [eP17, pm_n (pm_ne f15 f13 (by simp))]; exact f15
      have f20 : P17 h0 = some (.inr (1, [.int vn, .int vx, .int vy, .int vm, .int vk, .ref aw, .int x16, .int vd, .int vr, .int vt, va_rf ct])) := by rw [eP17]; exact pm_s
      refine lv_iconst (v := 1) hx hb dd_H_addWorks_49 (by decide) ?_
      refine cx_iret (v := (1 : Int32)) hx hb hr (by decide) hlocks hw dd_H_addWorks_50 (by decide) (by decide) ?_
      rw [if_neg c1, if_pos c2]
      exact ⟨rfl, q3, hnq3, by simp only [eP17, eP12, eP8, eP4, ex16, pm_uu]⟩
    · skip
      refine lv_iconst (v := 0) hx hb dd_H_addWorks_19 (by decide) ?_
      refine cx_iret (v := (0 : Int32)) hx hb hr (by decide) hlocks hw dd_H_addWorks_20 (by decide) (by decide) ?_
      rw [if_neg c1, if_neg c2]
      exact ⟨rfl, rfl⟩

set_option maxHeartbeats 4000000 in
set_option maxRecDepth 100000 in
theorem c_K_init (l : Launch) (z : Nat) (D : va_G) (ac : Nat → ClassId) (sa : Nat → Nat) (P : pm_T) (h0 : Nat) (f0 : P h0 = some (.inr (4, [.null, .int 0]))) : cx_M l yy_K_init bb_K_init 1 none ({ frames := 1, cells := 1, slots := 40, locals := 12 } : Room) z D ac sa P [.ref h0] (fun v P' => v = none ∧ ∃ q : Nat, P q = none ∧ P' = pm_up (pm_up P q (.inl (ac 0, 40, .inl (fun _ => 0)))) h0 (.inr (4, [.ref q, .int 0]))) := by
  refine cx_ofM (by decide) (Nat.le_of_ble_eq_true rfl) (fun p e s m below meth c ls hx hb hr hml hg hown hlocks hin hK hw hl => ?_)
  have hl : lv_has ls 1 [(0, .ref h0)] := hl
  have hown : s.vm.findClass cn_K = some m.cls := hown
  refine lv_aload_n hx hb dd_K_init_0 rfl (lv_at hl 0 rfl) ?_
  refine W.objInit hx hb hown (hg _ gm_K_3) (hg _ gi_objectInit) (hg _ gc_objectInit) rfl (by rw [hml]; exact hl.1) rfl dd_K_init_1 (Nat.le_of_ble_eq_true rfl) (Nat.le_of_ble_eq_true rfl) ?_
  refine W.eq (g2 := F0 m 4 ls []) rfl ?_
  refine lv_aload_n hx hb dd_K_init_4 rfl (lv_at hl 0 rfl) ?_
  refine lv_bipush (v := 40) hx hb dd_K_init_5 (by decide) ?_
  refine pm_newa (atype := .int) (N' := 40) (ty := .int) (a0 := (40, .inl (fun _ => 0))) hx hb (hg _ gar_int) rfl hK.2.1 hw 0 rfl (fun _ => rfl) (by decide) (by decide) (by decide) (Nat.le_of_ble_eq_true rfl) (Nat.le_of_ble_eq_true rfl) dd_K_init_7 (fun q1 H hnq1 hw => ?_)
  have hw : pm_W z D cl_w (pm_up P q1 (.inl (ac 0, 40, .inl (fun _ => 0)))) s.heap H _ := hw
  obtain ⟨P2, eP2⟩ : ∃ q : pm_T, q = pm_up P q1 (.inl (ac 0, 40, .inl (fun _ => 0))) := ⟨_, rfl⟩
  rw [← eP2] at hw
  have f3 : P2 h0 = some (.inr (4, [.null, .int 0])) := by rw [eP2, pm_n (pm_nx f0 hnq1)]; exact f0
  have f4 : P2 q1 = some (.inl (ac 0, 40, .inl (fun _ => 0))) := by rw [eP2]; exact pm_s
  refine pm_putF (ci := 4) (v := .ref q1) (ty := .array .int) (C := cn_K) (T := cf_K) (N := 2) hx hb hg gu_K ct_K co_K cm_K hown hK.2.1 hw f3 rfl 0 (by decide) (hg _ gf_K_9) (fun _ h9 => h9) rfl hin rfl (by decide +kernel) rfl rfl (Nat.le_of_ble_eq_true rfl) dd_K_init_9 (fun H locs hw => ?_)
  have hw : pm_W z D cl_w (pm_up P2 h0 (.inr (4, [.ref q1, .int 0]))) s.heap H _ := hw
  obtain ⟨P5, eP5⟩ : ∃ q : pm_T, q = pm_up P2 h0 (.inr (4, [.ref q1, .int 0])) := ⟨_, rfl⟩
  rw [← eP5] at hw
  have f6 : P5 q1 = some (.inl (ac 0, 40, .inl (fun _ => 0))) := by rw [eP5, pm_n (pm_ne f4 f3 (by simp))]; exact f4
  have f7 : P5 h0 = some (.inr (4, [.ref q1, .int 0])) := by rw [eP5]; exact pm_s
  refine lv_aload_n hx hb dd_K_init_12 rfl (lv_at hl 0 rfl) ?_
  refine lv_iconst (v := 0) hx hb dd_K_init_13 (by decide) ?_
  refine pm_put (ci := 4) (v := .int (0 : Int32)) (ty := .int) (C := cn_K) (T := cf_K) (N := 2) hx hb hg gu_K ct_K co_K cm_K hown hK.2.1 hw f7 rfl 1 (by decide) (hg _ gf_K_15) (fun _ h9 => h9) rfl (by decide +kernel) rfl rfl (Nat.le_of_ble_eq_true rfl) dd_K_init_14 (fun H locs hw => ?_)
  have hw : pm_W z D cl_w (pm_up P5 h0 (.inr (4, [.ref q1, .int (0 : Int32)]))) s.heap H _ := hw
  obtain ⟨P8, eP8⟩ : ∃ q : pm_T, q = pm_up P5 h0 (.inr (4, [.ref q1, .int (0 : Int32)])) := ⟨_, rfl⟩
  rw [← eP8] at hw
  have f9 : P8 q1 = some (.inl (ac 0, 40, .inl (fun _ => 0))) := by rw [eP8, pm_n (pm_ne f6 f7 (by simp))]; exact f6
  have f10 : P8 h0 = some (.inr (4, [.ref q1, .int (0 : Int32)])) := by rw [eP8]; exact pm_s
  refine cx_vret hx hb hr hlocks hw dd_K_init_17 (by decide) (by decide) ?_
  exact ⟨rfl, q1, hnq1, by simp only [eP8, eP5, eP2, pm_uu]⟩

set_option maxHeartbeats 4000000 in
set_option maxRecDepth 100000 in
theorem c_K_clear (l : Launch) (z : Nat) (D : va_G) (ac : Nat → ClassId) (sa : Nat → Nat) (P : pm_T) (h0 ak : Nat) (ks : Int32) (kf : Nat → Int32) (f0 : P h0 = some (.inr (4, [.ref ak, .int ks]))) : cx_M l yy_K_clear bb_K_clear 1 none ({ frames := 0, cells := 0, slots := 0, locals := 0 } : Room) z D ac sa P [.ref h0] (fun v P' => v = none ∧ P' = pm_up P h0 (.inr (4, [.ref ak, .int 0]))) := by
  refine cx_ofM (by decide) (Nat.le_of_ble_eq_true rfl) (fun p e s m below meth c ls hx hb hr hml hg hown hlocks hin hK hw hl => ?_)
  have hl : lv_has ls 1 [(0, .ref h0)] := hl
  have hown : s.vm.findClass cn_K = some m.cls := hown
  refine lv_aload_n hx hb dd_K_clear_0 rfl (lv_at hl 0 rfl) ?_
  refine lv_iconst (v := 0) hx hb dd_K_clear_1 (by decide) ?_
  refine pm_put (ci := 4) (v := .int (0 : Int32)) (ty := .int) (C := cn_K) (T := cf_K) (N := 2) hx hb hg gu_K ct_K co_K cm_K hown hK.2.1 hw f0 rfl 1 (by decide) (hg _ gf_K_15) (fun _ h9 => h9) rfl (by decide +kernel) rfl rfl (Nat.le_of_ble_eq_true rfl) dd_K_clear_2 (fun H locs hw => ?_)
  have hw : pm_W z D cl_w (pm_up P h0 (.inr (4, [.ref ak, .int (0 : Int32)]))) s.heap H _ := hw
  obtain ⟨P1, eP1⟩ : ∃ q : pm_T, q = pm_up P h0 (.inr (4, [.ref ak, .int (0 : Int32)])) := ⟨_, rfl⟩
  rw [← eP1] at hw
  have f2 : P1 h0 = some (.inr (4, [.ref ak, .int (0 : Int32)])) := by rw [eP1]; exact pm_s
  refine cx_vret hx hb hr hlocks hw dd_K_clear_5 (by decide) (by decide) ?_
  exact ⟨rfl, by simp only [eP1, pm_uu]⟩

set_option maxHeartbeats 4000000 in
set_option maxRecDepth 100000 in
theorem c_K_numberAt (l : Launch) (z : Nat) (D : va_G) (ac : Nat → ClassId) (sa : Nat → Nat) (P : pm_T) (h0 ak : Nat) (ks : Int32) (kf : Nat → Int32) (p1 : Int32) (f0 : P h0 = some (.inr (4, [.ref ak, .int ks]))) (f1 : P ak = some (.inl (ac 0, 40, .inl kf))) : cx_M l yy_K_numberAt bb_K_numberAt 2 (some .int) ({ frames := 0, cells := 0, slots := 0, locals := 0 } : Room) z D ac sa P [.ref h0, .int p1] (fun v P' => v = some (.int (if p1 < 0 then -1 else if ks ≤ p1 then -1 else if (40 : Int32) ≤ p1 then -1 else kf p1.toNatClampNeg - kf p1.toNatClampNeg / 40 * 40)) ∧ P' = P) := by
  refine cx_ofM (by decide) (Nat.le_of_ble_eq_true rfl) (fun p e s m below meth c ls hx hb hr hml hg hown hlocks hin hK hw hl => ?_)
  have hl : lv_has ls 2 [(0, .ref h0), (1, .int p1)] := hl
  have hown : s.vm.findClass cn_K = some m.cls := hown
  refine lv_iload_n hx hb dd_K_numberAt_0 rfl (lv_at hl 1 rfl) ?_
  refine lv_if_lt (tgt := 33) hx hb dd_K_numberAt_1 (by decide) (fun c1 => ?_) (fun c1 => ?_)
  · skip
    refine lv_iconst (v := (-1)) hx hb dd_K_numberAt_33 (by decide) ?_
    refine cx_iret (v := (-1 : Int32)) hx hb hr rfl hlocks hw dd_K_numberAt_34 (by decide) (by decide) ?_
    exact ⟨by simp only [if_pos c1], rfl⟩
  · skip
    refine lv_iload_n hx hb dd_K_numberAt_4 rfl (lv_at hl 1 rfl) ?_
    refine lv_aload_n hx hb dd_K_numberAt_5 rfl (lv_at hl 0 rfl) ?_
    refine pm_get (ci := 4) (C := cn_K) (T := cf_K) (N := 2) (v := .int ks) hx hb hg gu_K hown hK.2.1 hw f0 rfl 1 (by decide) (hg _ gf_K_15) (fun _ h9 => h9) rfl dd_K_numberAt_6 ?_
    refine lv_icmp_ge (tgt := 33) hx hb dd_K_numberAt_9 (by decide) (fun c2 => ?_) (fun c2 => ?_)
    · skip
      refine lv_iconst (v := (-1)) hx hb dd_K_numberAt_33 (by decide) ?_
      refine cx_iret (v := (-1 : Int32)) hx hb hr rfl hlocks hw dd_K_numberAt_34 (by decide) (by decide) ?_
      exact ⟨by simp only [if_neg c1, if_pos c2], rfl⟩
    · skip
      refine lv_iload_n hx hb dd_K_numberAt_12 rfl (lv_at hl 1 rfl) ?_
      refine lv_aload_n hx hb dd_K_numberAt_13 rfl (lv_at hl 0 rfl) ?_
      refine pm_get (ci := 4) (C := cn_K) (T := cf_K) (N := 2) (v := .ref ak) hx hb hg gu_K hown hK.2.1 hw f0 rfl 0 (by decide) (hg _ gf_K_9) (fun _ h9 => h9) rfl dd_K_numberAt_14 ?_
      refine pm_alen (v := 40) hx hb hK.2.1 hw 0 f1 rfl rfl dd_K_numberAt_17 ?_
      refine lv_icmp_ge (tgt := 33) hx hb dd_K_numberAt_18 (by decide) (fun c3 => ?_) (fun c3 => ?_)
      · skip
        refine lv_iconst (v := (-1)) hx hb dd_K_numberAt_33 (by decide) ?_
        refine cx_iret (v := (-1 : Int32)) hx hb hr rfl hlocks hw dd_K_numberAt_34 (by decide) (by decide) ?_
        exact ⟨by simp only [if_neg c1, if_neg c2, if_pos c3], rfl⟩
      · skip
        refine lv_aload_n hx hb dd_K_numberAt_21 rfl (lv_at hl 0 rfl) ?_
        refine pm_get (ci := 4) (C := cn_K) (T := cf_K) (N := 2) (v := .ref ak) hx hb hg gu_K hown hK.2.1 hw f0 rfl 0 (by decide) (hg _ gf_K_9) (fun _ h9 => h9) rfl dd_K_numberAt_22 ?_
        refine lv_iload_n hx hb dd_K_numberAt_25 rfl (lv_at hl 1 rfl) ?_
        refine pm_iald hx hb hK.2.1 hw 0 f1 rfl (vp_in_ge (n := 40) (by decide) c1 c3) dd_K_numberAt_26 ?_
        refine lv_bipush (v := 40) hx hb dd_K_numberAt_27 (by decide) ?_
        refine lv_irem hx hb dd_K_numberAt_29 (by decide) ?_
        refine lv_goto (tgt := 34) hx hb dd_K_numberAt_30 (by decide) ?_
        refine cx_iret (v := ((kf p1.toNatClampNeg) - (kf p1.toNatClampNeg) / (40 : Int32) * (40 : Int32))) hx hb hr rfl hlocks hw dd_K_numberAt_34 (by decide) (by decide) ?_
        exact ⟨by simp only [if_neg c1, if_neg c2, if_neg c3], rfl⟩

set_option maxHeartbeats 4000000 in
set_option maxRecDepth 100000 in
theorem c_A_init (l : Launch) (z : Nat) (D : va_G) (ac : Nat → ClassId) (sa : Nat → Nat) (P : pm_T) (h0 : Nat) (f0 : P h0 = some (.inr (5, [.null, .null, .null, .int 0, .int 0]))) : cx_M l yy_A_init bb_A_init 1 none ({ frames := 1, cells := 3, slots := 18, locals := 12 } : Room) z D ac sa P [.ref h0] (fun v P' => v = none ∧ ∃ q1 q2 q3 : Nat, (P q1 = none ∧ P q2 = none ∧ P q3 = none ∧ q2 ≠ q3) ∧ P' h0 = some (.inr (5, [.ref q1, .ref q2, .ref q3, .int 0, .int 0])) ∧ P' q1 = some (.inl (ac 3, 6, .inr (.inr (.inr (.inr (fun _ => none)))))) ∧ P' q2 = some (.inl (ac 0, 6, .inl (fun _ => 0))) ∧ P' q3 = some (.inl (ac 0, 6, .inl (fun _ => 0))) ∧ ∀ a : Nat, P a ≠ none → a ≠ h0 → P' a = P a) := by
  refine cx_ofM (by decide) (Nat.le_of_ble_eq_true rfl) (fun p e s m below meth c ls hx hb hr hml hg hown hlocks hin hK hw hl => ?_)
  have hl : lv_has ls 1 [(0, .ref h0)] := hl
  have hown : s.vm.findClass cn_A = some m.cls := hown
  refine lv_aload_n hx hb dd_A_init_0 rfl (lv_at hl 0 rfl) ?_
  refine W.objInit hx hb hown (hg _ gm_A_3) (hg _ gi_objectInit) (hg _ gc_objectInit) rfl (by rw [hml]; exact hl.1) rfl dd_A_init_1 (Nat.le_of_ble_eq_true rfl) (Nat.le_of_ble_eq_true rfl) ?_
  refine W.eq (g2 := F0 m 4 ls []) rfl ?_
  refine lv_aload_n hx hb dd_A_init_4 rfl (lv_at hl 0 rfl) ?_
  refine lv_bipush (v := 6) hx hb dd_A_init_5 (by decide) ?_
  refine pm_newq (N' := 6) hx hb hown (hg _ gk_A_9) (hK.2.2.2.2.2.2 _ (by decide +kernel)) hK.2.1 hw 3 rfl (by decide) (by decide) (by decide) (Nat.le_of_ble_eq_true rfl) (Nat.le_of_ble_eq_true rfl) dd_A_init_7 (fun q1 H hnq1 hw => ?_)
  have hw : pm_W z D cl_w (pm_up P q1 (.inl (ac 3, 6, .inr (.inr (.inr (.inr (fun _ => none))))))) s.heap H _ := hw
  obtain ⟨P2, eP2⟩ : ∃ q : pm_T, q = pm_up P q1 (.inl (ac 3, 6, .inr (.inr (.inr (.inr (fun _ => none)))))) := ⟨_, rfl⟩
  rw [← eP2] at hw
  have f3 : P2 h0 = some (.inr (5, [.null, .null, .null, .int 0, .int 0])) := by rw [eP2, pm_n (pm_nx f0 hnq1)]; exact f0
  have f4 : P2 q1 = some (.inl (ac 3, 6, .inr (.inr (.inr (.inr (fun _ => none)))))) := by rw [eP2]; exact pm_s
  have no_q1 : P q1 = none := hnq1
  have frP2 : ∀ a : Nat, P a ≠ none → a ≠ h0 → P2 a = P a := fun a h g0 => by rw [eP2, pm_n (fun e9 => h (by rw [e9]; exact hnq1))]
  refine pm_putF (ci := 5) (v := .ref q1) (ty := .array (.object "HydrantRows$Hydrant")) (C := cn_A) (T := cf_A) (N := 5) hx hb hg gu_A ct_A co_A cm_A hown hK.2.1 hw f3 rfl 0 (by decide) (hg _ gf_A_11) (fun _ h9 => h9) rfl hin rfl (by decide +kernel) rfl rfl (Nat.le_of_ble_eq_true rfl) dd_A_init_10 (fun H locs hw => ?_)
  have hw : pm_W z D cl_w (pm_up P2 h0 (.inr (5, [.ref q1, .null, .null, .int 0, .int 0]))) s.heap H _ := hw
  obtain ⟨P5, eP5⟩ : ∃ q : pm_T, q = pm_up P2 h0 (.inr (5, [.ref q1, .null, .null, .int 0, .int 0])) := ⟨_, rfl⟩
  rw [← eP5] at hw
  have f6 : P5 q1 = some (.inl (ac 3, 6, .inr (.inr (.inr (.inr (fun _ => none)))))) := by rw [eP5, pm_n (pm_ne f4 f3 (by simp))]; exact f4
  have f7 : P5 h0 = some (.inr (5, [.ref q1, .null, .null, .int 0, .int 0])) := by rw [eP5]; exact pm_s
  have frP5 : ∀ a : Nat, P a ≠ none → a ≠ h0 → P5 a = P a := fun a h g0 => by rw [eP5, pm_n g0]; exact (frP2 a h g0)
  refine lv_aload_n hx hb dd_A_init_13 rfl (lv_at hl 0 rfl) ?_
  refine lv_bipush (v := 6) hx hb dd_A_init_14 (by decide) ?_
  refine pm_newa (atype := .int) (N' := 6) (ty := .int) (a0 := (6, .inl (fun _ => 0))) hx hb (hg _ gar_int) rfl hK.2.1 hw 0 rfl (fun _ => rfl) (by decide) (by decide) (by decide) (Nat.le_of_ble_eq_true rfl) (Nat.le_of_ble_eq_true rfl) dd_A_init_16 (fun q8 H hnq8 hw => ?_)
  have hw : pm_W z D cl_w (pm_up P5 q8 (.inl (ac 0, 6, .inl (fun _ => 0)))) s.heap H _ := hw
  obtain ⟨P9, eP9⟩ : ∃ q : pm_T, q = pm_up P5 q8 (.inl (ac 0, 6, .inl (fun _ => 0))) := ⟨_, rfl⟩
  rw [← eP9] at hw
  have f10 : P9 q1 = some (.inl (ac 3, 6, .inr (.inr (.inr (.inr (fun _ => none)))))) := by rw [eP9, pm_n (pm_nx f6 hnq8)]; exact f6
  have f11 : P9 h0 = some (.inr (5, [.ref q1, .null, .null, .int 0, .int 0])) := by rw [eP9, pm_n (pm_nx f7 hnq8)]; exact f7
  have f12 : P9 q8 = some (.inl (ac 0, 6, .inl (fun _ => 0))) := by rw [eP9]; exact pm_s
  have no_q8 : P q8 = none := Classical.byContradiction (fun h => h ((frP5 q8 h (pm_nx f7 hnq8).symm).symm.trans hnq8))
  have ne_q1_q8 : q1 ≠ q8 := pm_nx f6 hnq8
  have frP9 : ∀ a : Nat, P a ≠ none → a ≠ h0 → P9 a = P a := fun a h g0 => by rw [eP9, pm_n (fun e9 => h ((frP5 a h g0).symm.trans (by rw [e9]; exact hnq8)))]; exact (frP5 a h g0)
  refine pm_putF (ci := 5) (v := .ref q8) (ty := .array .int) (C := cn_A) (T := cf_A) (N := 5) hx hb hg gu_A ct_A co_A cm_A hown hK.2.1 hw f11 rfl 1 (by decide) (hg _ gf_A_17) (fun _ h9 => h9) rfl hin rfl (by decide +kernel) rfl rfl (Nat.le_of_ble_eq_true rfl) dd_A_init_18 (fun H locs hw => ?_)
  have hw : pm_W z D cl_w (pm_up P9 h0 (.inr (5, [.ref q1, .ref q8, .null, .int 0, .int 0]))) s.heap H _ := hw
  obtain ⟨P13, eP13⟩ : ∃ q : pm_T, q = pm_up P9 h0 (.inr (5, [.ref q1, .ref q8, .null, .int 0, .int 0])) := ⟨_, rfl⟩
  rw [← eP13] at hw
  have f14 : P13 q1 = some (.inl (ac 3, 6, .inr (.inr (.inr (.inr (fun _ => none)))))) := by rw [eP13, pm_n (pm_ne f10 f11 (by simp))]; exact f10
  have f15 : P13 q8 = some (.inl (ac 0, 6, .inl (fun _ => 0))) := by rw [eP13, pm_n (pm_ne f12 f11 (by simp))]; exact f12
  have f16 : P13 h0 = some (.inr (5, [.ref q1, .ref q8, .null, .int 0, .int 0])) := by rw [eP13]; exact pm_s
  have frP13 : ∀ a : Nat, P a ≠ none → a ≠ h0 → P13 a = P a := fun a h g0 => by rw [eP13, pm_n g0]; exact (frP9 a h g0)
  refine lv_aload_n hx hb dd_A_init_21 rfl (lv_at hl 0 rfl) ?_
  refine lv_bipush (v := 6) hx hb dd_A_init_22 (by decide) ?_
  refine pm_newa (atype := .int) (N' := 6) (ty := .int) (a0 := (6, .inl (fun _ => 0))) hx hb (hg _ gar_int) rfl hK.2.1 hw 0 rfl (fun _ => rfl) (by decide) (by decide) (by decide) (Nat.le_of_ble_eq_true rfl) (Nat.le_of_ble_eq_true rfl) dd_A_init_24 (fun q17 H hnq17 hw => ?_)
  have hw : pm_W z D cl_w (pm_up P13 q17 (.inl (ac 0, 6, .inl (fun _ => 0)))) s.heap H _ := hw
  obtain ⟨P18, eP18⟩ : ∃ q : pm_T, q = pm_up P13 q17 (.inl (ac 0, 6, .inl (fun _ => 0))) := ⟨_, rfl⟩
  rw [← eP18] at hw
  have f19 : P18 q1 = some (.inl (ac 3, 6, .inr (.inr (.inr (.inr (fun _ => none)))))) := by rw [eP18, pm_n (pm_nx f14 hnq17)]; exact f14
  have f20 : P18 q8 = some (.inl (ac 0, 6, .inl (fun _ => 0))) := by rw [eP18, pm_n (pm_nx f15 hnq17)]; exact f15
  have f21 : P18 h0 = some (.inr (5, [.ref q1, .ref q8, .null, .int 0, .int 0])) := by rw [eP18, pm_n (pm_nx f16 hnq17)]; exact f16
  have f22 : P18 q17 = some (.inl (ac 0, 6, .inl (fun _ => 0))) := by rw [eP18]; exact pm_s
  have no_q17 : P q17 = none := Classical.byContradiction (fun h => h ((frP13 q17 h (pm_nx f16 hnq17).symm).symm.trans hnq17))
  have ne_q1_q17 : q1 ≠ q17 := pm_nx f14 hnq17
  have ne_q8_q17 : q8 ≠ q17 := pm_nx f15 hnq17
  have frP18 : ∀ a : Nat, P a ≠ none → a ≠ h0 → P18 a = P a := fun a h g0 => by rw [eP18, pm_n (fun e9 => h ((frP13 a h g0).symm.trans (by rw [e9]; exact hnq17)))]; exact (frP13 a h g0)
  refine pm_putF (ci := 5) (v := .ref q17) (ty := .array .int) (C := cn_A) (T := cf_A) (N := 5) hx hb hg gu_A ct_A co_A cm_A hown hK.2.1 hw f21 rfl 2 (by decide) (hg _ gf_A_21) (fun _ h9 => h9) rfl hin rfl (by decide +kernel) rfl rfl (Nat.le_of_ble_eq_true rfl) dd_A_init_26 (fun H locs hw => ?_)
  have hw : pm_W z D cl_w (pm_up P18 h0 (.inr (5, [.ref q1, .ref q8, .ref q17, .int 0, .int 0]))) s.heap H _ := hw
  obtain ⟨P23, eP23⟩ : ∃ q : pm_T, q = pm_up P18 h0 (.inr (5, [.ref q1, .ref q8, .ref q17, .int 0, .int 0])) := ⟨_, rfl⟩
  rw [← eP23] at hw
  have f24 : P23 q1 = some (.inl (ac 3, 6, .inr (.inr (.inr (.inr (fun _ => none)))))) := by rw [eP23, pm_n (pm_ne f19 f21 (by simp))]; exact f19
  have f25 : P23 q8 = some (.inl (ac 0, 6, .inl (fun _ => 0))) := by rw [eP23, pm_n (pm_ne f20 f21 (by simp))]; exact f20
  have f26 : P23 q17 = some (.inl (ac 0, 6, .inl (fun _ => 0))) := by rw [eP23, pm_n (pm_ne f22 f21 (by simp))]; exact f22
  have f27 : P23 h0 = some (.inr (5, [.ref q1, .ref q8, .ref q17, .int 0, .int 0])) := by rw [eP23]; exact pm_s
  have frP23 : ∀ a : Nat, P a ≠ none → a ≠ h0 → P23 a = P a := fun a h g0 => by rw [eP23, pm_n g0]; exact (frP18 a h g0)
  refine lv_aload_n hx hb dd_A_init_29 rfl (lv_at hl 0 rfl) ?_
  refine lv_iconst (v := 0) hx hb dd_A_init_30 (by decide) ?_
  refine pm_put (ci := 5) (v := .int (0 : Int32)) (ty := .int) (C := cn_A) (T := cf_A) (N := 5) hx hb hg gu_A ct_A co_A cm_A hown hK.2.1 hw f27 rfl 3 (by decide) (hg _ gf_A_24) (fun _ h9 => h9) rfl (by decide +kernel) rfl rfl (Nat.le_of_ble_eq_true rfl) dd_A_init_31 (fun H locs hw => ?_)
  have hw : pm_W z D cl_w (pm_up P23 h0 (.inr (5, [.ref q1, .ref q8, .ref q17, .int (0 : Int32), .int 0]))) s.heap H _ := hw
  obtain ⟨P28, eP28⟩ : ∃ q : pm_T, q = pm_up P23 h0 (.inr (5, [.ref q1, .ref q8, .ref q17, .int (0 : Int32), .int 0])) := ⟨_, rfl⟩
  rw [← eP28] at hw
  have f29 : P28 q1 = some (.inl (ac 3, 6, .inr (.inr (.inr (.inr (fun _ => none)))))) := by rw [eP28, pm_n (pm_ne f24 f27 (by simp))]; exact f24
  have f30 : P28 q8 = some (.inl (ac 0, 6, .inl (fun _ => 0))) := by rw [eP28, pm_n (pm_ne f25 f27 (by simp))]; exact f25
  have f31 : P28 q17 = some (.inl (ac 0, 6, .inl (fun _ => 0))) := by rw [eP28, pm_n (pm_ne f26 f27 (by simp))]; exact f26
  have f32 : P28 h0 = some (.inr (5, [.ref q1, .ref q8, .ref q17, .int (0 : Int32), .int 0])) := by rw [eP28]; exact pm_s
  have frP28 : ∀ a : Nat, P a ≠ none → a ≠ h0 → P28 a = P a := fun a h g0 => by rw [eP28, pm_n g0]; exact (frP23 a h g0)
  refine lv_aload_n hx hb dd_A_init_34 rfl (lv_at hl 0 rfl) ?_
  refine lv_iconst (v := 0) hx hb dd_A_init_35 (by decide) ?_
  refine pm_put (ci := 5) (v := .int (0 : Int32)) (ty := .int) (C := cn_A) (T := cf_A) (N := 5) hx hb hg gu_A ct_A co_A cm_A hown hK.2.1 hw f32 rfl 4 (by decide) (hg _ gf_A_28) (fun _ h9 => h9) rfl (by decide +kernel) rfl rfl (Nat.le_of_ble_eq_true rfl) dd_A_init_36 (fun H locs hw => ?_)
  have hw : pm_W z D cl_w (pm_up P28 h0 (.inr (5, [.ref q1, .ref q8, .ref q17, .int (0 : Int32), .int (0 : Int32)]))) s.heap H _ := hw
  obtain ⟨P33, eP33⟩ : ∃ q : pm_T, q = pm_up P28 h0 (.inr (5, [.ref q1, .ref q8, .ref q17, .int (0 : Int32), .int (0 : Int32)])) := ⟨_, rfl⟩
  rw [← eP33] at hw
  have f34 : P33 q1 = some (.inl (ac 3, 6, .inr (.inr (.inr (.inr (fun _ => none)))))) := by rw [eP33, pm_n (pm_ne f29 f32 (by simp))]; exact f29
  have f35 : P33 q8 = some (.inl (ac 0, 6, .inl (fun _ => 0))) := by rw [eP33, pm_n (pm_ne f30 f32 (by simp))]; exact f30
  have f36 : P33 q17 = some (.inl (ac 0, 6, .inl (fun _ => 0))) := by rw [eP33, pm_n (pm_ne f31 f32 (by simp))]; exact f31
  have f37 : P33 h0 = some (.inr (5, [.ref q1, .ref q8, .ref q17, .int (0 : Int32), .int (0 : Int32)])) := by rw [eP33]; exact pm_s
  have frP33 : ∀ a : Nat, P a ≠ none → a ≠ h0 → P33 a = P a := fun a h g0 => by rw [eP33, pm_n g0]; exact (frP28 a h g0)
  refine cx_vret hx hb hr hlocks hw dd_A_init_39 (by decide) (by decide) ?_
  exact ⟨rfl, q1, q8, q17, ⟨no_q1, no_q8, no_q17, ne_q8_q17⟩, f37, f34, f35, f36, frP33⟩
end
section
def su_main (m : Int32) : Prop := ¬ m < 0 ∧ m < 20
def su_pl (x y : Int32) : Prop := ¬ x < -50000 ∧ ¬ 50000 < x ∧ ¬ y < -50000 ∧ y ≤ 50000
def su_day (d : Int32) : Prop := ¬ d < 0 ∧ d ≤ 99999
def su_pr (d : Int32) : Prop := ¬ d < 0 ∧ d ≤ 2000
def su_fl (d : Int32) : Prop := ¬ d < 0 ∧ d ≤ 20000
def su_nn (d : Int32) : Prop := 0 ≤ d
def su_kn (p : Int32) (fH : Nat → Option Nat) : Option Nat := if p < 0 then none else if (40 : Int32) ≤ p then none else fH p.toNatClampNeg
def su_lim (p : Int32) (lm : Nat → Int32) : Int32 := if p < 0 then 0 else if (20 : Int32) ≤ p then 0 else lm p.toNatClampNeg
def su_told (h : Int64) (i : Int32) : Int32 := ((h.toUInt64 >>> ((6 * i).toInt64.toUInt64 &&& Int64.toUInt64 63)).toInt64 &&& 63).toInt32
theorem su_b0 {a : Prop} [Decidable a] (h : (if a then (0 : Int32) else 1) = 0) : a := by
  by_cases h1 : a
  · exact h1
  · rw [if_neg h1] at h; exact absurd h (by decide)
theorem su_b1 {a : Prop} [Decidable a] (h : ¬ (if a then (0 : Int32) else 1) = 0) : ¬ a := fun h1 => h (if_pos h1)

set_option maxHeartbeats 4000000 in
set_option maxRecDepth 100000 in
theorem c_C_needMain (l : Launch) (hT : l.stackTraces = false) (z : Nat) (D : va_G) (ac : Nat → ClassId) (sa : Nat → Nat) (P : pm_T) (h0 aH aT aL aK aW : Nat) (nh nt al : Int32) (lm : Nat → Int32) (p1 : Int32) (f0 : P h0 = some (.inr (0, [.ref aH, .ref aT, .ref aL, .ref aK, .ref aW, .int nh, .int nt, .int al]))) (f1 : P aL = some (.inl (ac 0, 20, .inl lm))) : cx_V l yy_C_needMain bb_C_needMain 2 none ({ frames := 6, cells := 1, slots := 6, locals := 90 } : Room) z D ac sa P [.ref h0, .int p1] (fun v P' => v = none ∧ P' = P ∧ su_main p1) (fun E P' => E = xn_IAE ∧ P' = P ∧ ¬ su_main p1) := by
  refine cx_ofV (by decide) (Nat.le_of_ble_eq_true rfl) (fun p e s m below meth c ls hx hb hr hml hg hown hlocks hout hK hw hl => ?_)
  have hl : lv_has ls 2 [(0, .ref h0), (1, .int p1)] := hl
  have hown : s.vm.findClass cn_C = some m.cls := hown
  refine lv_iload_n hx hb dd_C_needMain_0 rfl (lv_at hl 1 rfl) ?_
  refine lv_if_lt (tgt := 13) hx hb dd_C_needMain_1 (by decide) (fun c1 => ?_) (fun c1 => ?_)
  · skip
    refine cx_thrSW (E := xn_IAE) (text := "no such main") hx hb hT (by rw [hml]; exact hl.1.symm) hown hg hK hw (by decide +kernel) gk_C_54 gn_IllegalArgumentException xg_IAE xb_IAE xo_IAE (by decide +kernel) dd_C_needMain_13 dd_C_needMain_16 dd_C_needMain_17 dd_C_needMain_20 dd_C_needMain_23 hout ⟨by decide, Nat.le_of_ble_eq_true rfl, by decide, by decide⟩ hlocks (by decide) (by decide) ?_
    exact ⟨rfl, rfl, fun h9 => absurd c1 h9.1⟩
  · skip
    refine lv_iload_n hx hb dd_C_needMain_4 rfl (lv_at hl 1 rfl) ?_
    refine lv_aload_n hx hb dd_C_needMain_5 rfl (lv_at hl 0 rfl) ?_
    refine pm_get (ci := 0) (C := cn_C) (T := cf_C) (N := 8) (v := .ref aL) hx hb hg gu_C hown hK.2.1 hw f0 rfl 2 (by decide) (hg _ gf_C_21) (fun _ h9 => h9) rfl dd_C_needMain_6 ?_
    refine pm_alen (v := 20) hx hb hK.2.1 hw 0 f1 rfl rfl dd_C_needMain_9 ?_
    refine lv_icmp_lt (tgt := 24) hx hb dd_C_needMain_10 (by decide) (fun c2 => ?_) (fun c2 => ?_)
    · skip
      refine vx_ret (cx_vret hx hb hr hlocks hw dd_C_needMain_24 (by decide) (by decide) ?_)
      exact ⟨rfl, rfl, ⟨c1, c2⟩⟩
    · skip
      refine cx_thrSW (E := xn_IAE) (text := "no such main") hx hb hT (by rw [hml]; exact hl.1.symm) hown hg hK hw (by decide +kernel) gk_C_54 gn_IllegalArgumentException xg_IAE xb_IAE xo_IAE (by decide +kernel) dd_C_needMain_13 dd_C_needMain_16 dd_C_needMain_17 dd_C_needMain_20 dd_C_needMain_23 hout ⟨by decide, Nat.le_of_ble_eq_true rfl, by decide, by decide⟩ hlocks (by decide) (by decide) ?_
      exact ⟨rfl, rfl, fun h9 => absurd h9.2 c2⟩

set_option maxHeartbeats 4000000 in
set_option maxRecDepth 100000 in
theorem c_C_needPlace (l : Launch) (hT : l.stackTraces = false) (z : Nat) (D : va_G) (ac : Nat → ClassId) (sa : Nat → Nat) (P : pm_T)  (p0 p1 : Int32)  : cx_V l yy_C_needPlace bb_C_needPlace 2 none ({ frames := 6, cells := 1, slots := 6, locals := 90 } : Room) z D ac sa P [.int p0, .int p1] (fun v P' => v = none ∧ P' = P ∧ su_pl p0 p1) (fun E P' => E = xn_IOB ∧ P' = P ∧ ¬ su_pl p0 p1) := by
  refine cx_ofV (by decide) (Nat.le_of_ble_eq_true rfl) (fun p e s m below meth c ls hx hb hr hml hg hown hlocks hout hK hw hl => ?_)
  have hl : lv_has ls 2 [(0, .int p0), (1, .int p1)] := hl
  have hown : s.vm.findClass cn_C = some m.cls := hown
  refine lv_iload_n hx hb dd_C_needPlace_0 rfl (lv_at hl 0 rfl) ?_
  refine lv_ldcw (v := (-50000)) hx hb hown (hg _ gq_C_274) dd_C_needPlace_1 ?_
  refine lv_icmp_lt (tgt := 28) hx hb dd_C_needPlace_4 (by decide) (fun c1 => ?_) (fun c1 => ?_)
  · skip
    refine cx_thrSW (E := xn_IOB) (text := "no such place") hx hb hT (by rw [hml]; exact hl.1.symm) hown hg hK hw (by decide +kernel) gk_C_132 gn_IndexOutOfBoundsException xg_IOB xb_IOB xo_IOB (by decide +kernel) dd_C_needPlace_28 dd_C_needPlace_31 dd_C_needPlace_32 dd_C_needPlace_35 dd_C_needPlace_38 hout ⟨by decide, Nat.le_of_ble_eq_true rfl, by decide, by decide⟩ hlocks (by decide) (by decide) ?_
    exact ⟨rfl, rfl, fun h9 => absurd c1 h9.1⟩
  · skip
    refine lv_iload_n hx hb dd_C_needPlace_7 rfl (lv_at hl 0 rfl) ?_
    refine lv_ldcw (v := (50000)) hx hb hown (hg _ gq_C_275) dd_C_needPlace_8 ?_
    refine lv_icmp_gt (tgt := 28) hx hb dd_C_needPlace_11 (by decide) (fun c2 => ?_) (fun c2 => ?_)
    · skip
      refine cx_thrSW (E := xn_IOB) (text := "no such place") hx hb hT (by rw [hml]; exact hl.1.symm) hown hg hK hw (by decide +kernel) gk_C_132 gn_IndexOutOfBoundsException xg_IOB xb_IOB xo_IOB (by decide +kernel) dd_C_needPlace_28 dd_C_needPlace_31 dd_C_needPlace_32 dd_C_needPlace_35 dd_C_needPlace_38 hout ⟨by decide, Nat.le_of_ble_eq_true rfl, by decide, by decide⟩ hlocks (by decide) (by decide) ?_
      exact ⟨rfl, rfl, fun h9 => absurd c2 h9.2.1⟩
    · skip
      refine lv_iload_n hx hb dd_C_needPlace_14 rfl (lv_at hl 1 rfl) ?_
      refine lv_ldcw (v := (-50000)) hx hb hown (hg _ gq_C_274) dd_C_needPlace_15 ?_
      refine lv_icmp_lt (tgt := 28) hx hb dd_C_needPlace_18 (by decide) (fun c3 => ?_) (fun c3 => ?_)
      · skip
        refine cx_thrSW (E := xn_IOB) (text := "no such place") hx hb hT (by rw [hml]; exact hl.1.symm) hown hg hK hw (by decide +kernel) gk_C_132 gn_IndexOutOfBoundsException xg_IOB xb_IOB xo_IOB (by decide +kernel) dd_C_needPlace_28 dd_C_needPlace_31 dd_C_needPlace_32 dd_C_needPlace_35 dd_C_needPlace_38 hout ⟨by decide, Nat.le_of_ble_eq_true rfl, by decide, by decide⟩ hlocks (by decide) (by decide) ?_
        exact ⟨rfl, rfl, fun h9 => absurd c3 h9.2.2.1⟩
      · skip
        refine lv_iload_n hx hb dd_C_needPlace_21 rfl (lv_at hl 1 rfl) ?_
        refine lv_ldcw (v := (50000)) hx hb hown (hg _ gq_C_275) dd_C_needPlace_22 ?_
        refine lv_icmp_le (tgt := 39) hx hb dd_C_needPlace_25 (by decide) (fun c4 => ?_) (fun c4 => ?_)
        · skip
          refine vx_ret (cx_vret hx hb hr hlocks hw dd_C_needPlace_39 (by decide) (by decide) ?_)
          exact ⟨rfl, rfl, ⟨c1, c2, c3, c4⟩⟩
        · skip
          refine cx_thrSW (E := xn_IOB) (text := "no such place") hx hb hT (by rw [hml]; exact hl.1.symm) hown hg hK hw (by decide +kernel) gk_C_132 gn_IndexOutOfBoundsException xg_IOB xb_IOB xo_IOB (by decide +kernel) dd_C_needPlace_28 dd_C_needPlace_31 dd_C_needPlace_32 dd_C_needPlace_35 dd_C_needPlace_38 hout ⟨by decide, Nat.le_of_ble_eq_true rfl, by decide, by decide⟩ hlocks (by decide) (by decide) ?_
          exact ⟨rfl, rfl, fun h9 => absurd h9.2.2.2 c4⟩

set_option maxHeartbeats 4000000 in
set_option maxRecDepth 100000 in
theorem c_C_needDay (l : Launch) (hT : l.stackTraces = false) (z : Nat) (D : va_G) (ac : Nat → ClassId) (sa : Nat → Nat) (P : pm_T)  (p0 : Int32)  : cx_V l yy_C_needDay bb_C_needDay 1 none ({ frames := 6, cells := 1, slots := 6, locals := 90 } : Room) z D ac sa P [.int p0] (fun v P' => v = none ∧ P' = P ∧ su_day p0) (fun E P' => E = xn_IOB ∧ P' = P ∧ ¬ su_day p0) := by
  refine cx_ofV (by decide) (Nat.le_of_ble_eq_true rfl) (fun p e s m below meth c ls hx hb hr hml hg hown hlocks hout hK hw hl => ?_)
  have hl : lv_has ls 1 [(0, .int p0)] := hl
  have hown : s.vm.findClass cn_C = some m.cls := hown
  refine lv_iload_n hx hb dd_C_needDay_0 rfl (lv_at hl 0 rfl) ?_
  refine lv_if_lt (tgt := 11) hx hb dd_C_needDay_1 (by decide) (fun c1 => ?_) (fun c1 => ?_)
  · skip
    refine cx_thrSW (E := xn_IOB) (text := "no such day") hx hb hT (by rw [hml]; exact hl.1.symm) hown hg hK hw (by decide +kernel) gk_C_132 gn_IndexOutOfBoundsException xg_IOB xb_IOB xo_IOB (by decide +kernel) dd_C_needDay_11 dd_C_needDay_14 dd_C_needDay_15 dd_C_needDay_18 dd_C_needDay_21 hout ⟨by decide, Nat.le_of_ble_eq_true rfl, by decide, by decide⟩ hlocks (by decide) (by decide) ?_
    exact ⟨rfl, rfl, fun h9 => absurd c1 h9.1⟩
  · skip
    refine lv_iload_n hx hb dd_C_needDay_4 rfl (lv_at hl 0 rfl) ?_
    refine lv_ldcw (v := (99999)) hx hb hown (hg _ gq_C_278) dd_C_needDay_5 ?_
    refine lv_icmp_le (tgt := 22) hx hb dd_C_needDay_8 (by decide) (fun c2 => ?_) (fun c2 => ?_)
    · skip
      refine vx_ret (cx_vret hx hb hr hlocks hw dd_C_needDay_22 (by decide) (by decide) ?_)
      exact ⟨rfl, rfl, ⟨c1, c2⟩⟩
    · skip
      refine cx_thrSW (E := xn_IOB) (text := "no such day") hx hb hT (by rw [hml]; exact hl.1.symm) hown hg hK hw (by decide +kernel) gk_C_132 gn_IndexOutOfBoundsException xg_IOB xb_IOB xo_IOB (by decide +kernel) dd_C_needDay_11 dd_C_needDay_14 dd_C_needDay_15 dd_C_needDay_18 dd_C_needDay_21 hout ⟨by decide, Nat.le_of_ble_eq_true rfl, by decide, by decide⟩ hlocks (by decide) (by decide) ?_
      exact ⟨rfl, rfl, fun h9 => absurd h9.2 c2⟩

set_option maxHeartbeats 4000000 in
set_option maxRecDepth 100000 in
theorem c_C_needPressure (l : Launch) (hT : l.stackTraces = false) (z : Nat) (D : va_G) (ac : Nat → ClassId) (sa : Nat → Nat) (P : pm_T)  (p0 : Int32)  : cx_V l yy_C_needPressure bb_C_needPressure 1 none ({ frames := 6, cells := 1, slots := 6, locals := 90 } : Room) z D ac sa P [.int p0] (fun v P' => v = none ∧ P' = P ∧ su_pr p0) (fun E P' => E = xn_IOB ∧ P' = P ∧ ¬ su_pr p0) := by
  refine cx_ofV (by decide) (Nat.le_of_ble_eq_true rfl) (fun p e s m below meth c ls hx hb hr hml hg hown hlocks hout hK hw hl => ?_)
  have hl : lv_has ls 1 [(0, .int p0)] := hl
  have hown : s.vm.findClass cn_C = some m.cls := hown
  refine lv_iload_n hx hb dd_C_needPressure_0 rfl (lv_at hl 0 rfl) ?_
  refine lv_if_lt (tgt := 11) hx hb dd_C_needPressure_1 (by decide) (fun c1 => ?_) (fun c1 => ?_)
  · skip
    refine cx_thrSW (E := xn_IOB) (text := "no such pressure") hx hb hT (by rw [hml]; exact hl.1.symm) hown hg hK hw (by decide +kernel) gk_C_132 gn_IndexOutOfBoundsException xg_IOB xb_IOB xo_IOB (by decide +kernel) dd_C_needPressure_11 dd_C_needPressure_14 dd_C_needPressure_15 dd_C_needPressure_18 dd_C_needPressure_21 hout ⟨by decide, Nat.le_of_ble_eq_true rfl, by decide, by decide⟩ hlocks (by decide) (by decide) ?_
    exact ⟨rfl, rfl, fun h9 => absurd c1 h9.1⟩
  · skip
    refine lv_iload_n hx hb dd_C_needPressure_4 rfl (lv_at hl 0 rfl) ?_
    refine lv_sipush (v := 2000) hx hb dd_C_needPressure_5 (by decide) ?_
    refine lv_icmp_le (tgt := 22) hx hb dd_C_needPressure_8 (by decide) (fun c2 => ?_) (fun c2 => ?_)
    · skip
      refine vx_ret (cx_vret hx hb hr hlocks hw dd_C_needPressure_22 (by decide) (by decide) ?_)
      exact ⟨rfl, rfl, ⟨c1, c2⟩⟩
    · skip
      refine cx_thrSW (E := xn_IOB) (text := "no such pressure") hx hb hT (by rw [hml]; exact hl.1.symm) hown hg hK hw (by decide +kernel) gk_C_132 gn_IndexOutOfBoundsException xg_IOB xb_IOB xo_IOB (by decide +kernel) dd_C_needPressure_11 dd_C_needPressure_14 dd_C_needPressure_15 dd_C_needPressure_18 dd_C_needPressure_21 hout ⟨by decide, Nat.le_of_ble_eq_true rfl, by decide, by decide⟩ hlocks (by decide) (by decide) ?_
      exact ⟨rfl, rfl, fun h9 => absurd h9.2 c2⟩

set_option maxHeartbeats 4000000 in
set_option maxRecDepth 100000 in
theorem c_C_needFlow (l : Launch) (hT : l.stackTraces = false) (z : Nat) (D : va_G) (ac : Nat → ClassId) (sa : Nat → Nat) (P : pm_T)  (p0 : Int32)  : cx_V l yy_C_needFlow bb_C_needFlow 1 none ({ frames := 6, cells := 1, slots := 6, locals := 90 } : Room) z D ac sa P [.int p0] (fun v P' => v = none ∧ P' = P ∧ su_fl p0) (fun E P' => E = xn_IOB ∧ P' = P ∧ ¬ su_fl p0) := by
  refine cx_ofV (by decide) (Nat.le_of_ble_eq_true rfl) (fun p e s m below meth c ls hx hb hr hml hg hown hlocks hout hK hw hl => ?_)
  have hl : lv_has ls 1 [(0, .int p0)] := hl
  have hown : s.vm.findClass cn_C = some m.cls := hown
  refine lv_iload_n hx hb dd_C_needFlow_0 rfl (lv_at hl 0 rfl) ?_
  refine lv_if_lt (tgt := 11) hx hb dd_C_needFlow_1 (by decide) (fun c1 => ?_) (fun c1 => ?_)
  · skip
    refine cx_thrSW (E := xn_IOB) (text := "no such flow") hx hb hT (by rw [hml]; exact hl.1.symm) hown hg hK hw (by decide +kernel) gk_C_132 gn_IndexOutOfBoundsException xg_IOB xb_IOB xo_IOB (by decide +kernel) dd_C_needFlow_11 dd_C_needFlow_14 dd_C_needFlow_15 dd_C_needFlow_18 dd_C_needFlow_21 hout ⟨by decide, Nat.le_of_ble_eq_true rfl, by decide, by decide⟩ hlocks (by decide) (by decide) ?_
    exact ⟨rfl, rfl, fun h9 => absurd c1 h9.1⟩
  · skip
    refine lv_iload_n hx hb dd_C_needFlow_4 rfl (lv_at hl 0 rfl) ?_
    refine lv_sipush (v := 20000) hx hb dd_C_needFlow_5 (by decide) ?_
    refine lv_icmp_le (tgt := 22) hx hb dd_C_needFlow_8 (by decide) (fun c2 => ?_) (fun c2 => ?_)
    · skip
      refine vx_ret (cx_vret hx hb hr hlocks hw dd_C_needFlow_22 (by decide) (by decide) ?_)
      exact ⟨rfl, rfl, ⟨c1, c2⟩⟩
    · skip
      refine cx_thrSW (E := xn_IOB) (text := "no such flow") hx hb hT (by rw [hml]; exact hl.1.symm) hown hg hK hw (by decide +kernel) gk_C_132 gn_IndexOutOfBoundsException xg_IOB xb_IOB xo_IOB (by decide +kernel) dd_C_needFlow_11 dd_C_needFlow_14 dd_C_needFlow_15 dd_C_needFlow_18 dd_C_needFlow_21 hout ⟨by decide, Nat.le_of_ble_eq_true rfl, by decide, by decide⟩ hlocks (by decide) (by decide) ?_
      exact ⟨rfl, rfl, fun h9 => absurd h9.2 c2⟩

set_option maxHeartbeats 4000000 in
set_option maxRecDepth 100000 in
theorem c_C_needNotBelowZero (l : Launch) (hT : l.stackTraces = false) (z : Nat) (D : va_G) (ac : Nat → ClassId) (sa : Nat → Nat) (P : pm_T)  (p0 : Int32)  : cx_V l yy_C_needNotBelowZero bb_C_needNotBelowZero 1 none ({ frames := 6, cells := 1, slots := 6, locals := 90 } : Room) z D ac sa P [.int p0] (fun v P' => v = none ∧ P' = P ∧ su_nn p0) (fun E P' => E = xn_IOB ∧ P' = P ∧ ¬ su_nn p0) := by
  refine cx_ofV (by decide) (Nat.le_of_ble_eq_true rfl) (fun p e s m below meth c ls hx hb hr hml hg hown hlocks hout hK hw hl => ?_)
  have hl : lv_has ls 1 [(0, .int p0)] := hl
  have hown : s.vm.findClass cn_C = some m.cls := hown
  refine lv_iload_n hx hb dd_C_needNotBelowZero_0 rfl (lv_at hl 0 rfl) ?_
  refine lv_if_ge (tgt := 15) hx hb dd_C_needNotBelowZero_1 (by decide) (fun c1 => ?_) (fun c1 => ?_)
  · skip
    refine vx_ret (cx_vret hx hb hr hlocks hw dd_C_needNotBelowZero_15 (by decide) (by decide) ?_)
    exact ⟨rfl, rfl, c1⟩
  · skip
    refine cx_thrSW (E := xn_IOB) (text := "the place in the row is below 0") hx hb hT (by rw [hml]; exact hl.1.symm) hown hg hK hw (by decide +kernel) gk_C_132 gn_IndexOutOfBoundsException xg_IOB xb_IOB xo_IOB (by decide +kernel) dd_C_needNotBelowZero_4 dd_C_needNotBelowZero_7 dd_C_needNotBelowZero_8 dd_C_needNotBelowZero_11 dd_C_needNotBelowZero_14 hout ⟨by decide, Nat.le_of_ble_eq_true rfl, by decide, by decide⟩ hlocks (by decide) (by decide) ?_
    exact ⟨rfl, rfl, fun h9 => absurd h9 c1⟩

set_option maxHeartbeats 4000000 in
set_option maxRecDepth 100000 in
theorem c_C_known (l : Launch) (hT : l.stackTraces = false) (z : Nat) (D : va_G) (ac : Nat → ClassId) (sa : Nat → Nat) (P : pm_T) (h0 aH aT aL aK aW : Nat) (nh nt al : Int32) (fH : Nat → Option Nat) (p1 : Int32) (f0 : P h0 = some (.inr (0, [.ref aH, .ref aT, .ref aL, .ref aK, .ref aW, .int nh, .int nt, .int al]))) (f1 : P aH = some (.inl (ac 3, 40, .inr (.inr (.inr (.inr fH)))))) : cx_V l yy_C_known bb_C_known 3 (some (.object "HydrantRows$Hydrant")) ({ frames := 6, cells := 1, slots := 6, locals := 90 } : Room) z D ac sa P [.ref h0, .int p1] (fun v P' => ∃ q : Nat, v = some (.ref q) ∧ P' = P ∧ su_kn p1 fH = some q) (fun E P' => E = xn_IAE ∧ P' = P ∧ su_kn p1 fH = none) := by
  refine cx_ofV (by decide) (Nat.le_of_ble_eq_true rfl) (fun p e s m below meth c ls hx hb hr hml hg hown hlocks hout hK hw hl => ?_)
  have hl : lv_has ls 3 [(0, .ref h0), (1, .int p1)] := hl
  have hown : s.vm.findClass cn_C = some m.cls := hown
  refine lv_iload_n hx hb dd_C_known_0 rfl (lv_at hl 1 rfl) ?_
  refine lv_if_lt (tgt := 22) hx hb dd_C_known_1 (by decide) (fun c1 => ?_) (fun c1 => ?_)
  · skip
    refine lv_null hx hb dd_C_known_22 ?_
    refine lv_astore_nN (lv' := [(2, .null), (0, .ref h0), (1, .int p1)]) hx hb dd_C_known_23 rfl hl (by decide) rfl (fun ls hl => ?_)
    refine lv_aload_nN hx hb dd_C_known_24 rfl (lv_at hl 0 rfl) ?_
    refine lv_ifnonnullN hx hb dd_C_known_25 ?_
    refine cx_thrS (E := xn_IAE) (text := "no such hydrant") hx hb hT (by rw [hml]; exact hl.1.symm) hown hg hK hw (by decide +kernel) gk_C_54 gn_IllegalArgumentException xg_IAE xb_IAE xo_IAE (by decide +kernel) dd_C_known_28 dd_C_known_31 dd_C_known_32 dd_C_known_34 dd_C_known_37 hout ⟨by decide, Nat.le_of_ble_eq_true rfl, by decide, by decide⟩ hlocks (by decide) (by decide) ?_
    exact ⟨rfl, rfl, by rw [su_kn, if_pos c1]⟩
  · skip
    refine lv_iload_n hx hb dd_C_known_4 rfl (lv_at hl 1 rfl) ?_
    refine lv_aload_n hx hb dd_C_known_5 rfl (lv_at hl 0 rfl) ?_
    refine pm_get (ci := 0) (C := cn_C) (T := cf_C) (N := 8) (v := .ref aH) hx hb hg gu_C hown hK.2.1 hw f0 rfl 0 (by decide) (hg _ gf_C_11) (fun _ h9 => h9) rfl dd_C_known_6 ?_
    refine pm_alen (v := 40) hx hb hK.2.1 hw 3 f1 rfl rfl dd_C_known_9 ?_
    refine lv_icmp_ge (tgt := 22) hx hb dd_C_known_10 (by decide) (fun c2 => ?_) (fun c2 => ?_)
    · skip
      refine lv_null hx hb dd_C_known_22 ?_
      refine lv_astore_nN (lv' := [(2, .null), (0, .ref h0), (1, .int p1)]) hx hb dd_C_known_23 rfl hl (by decide) rfl (fun ls hl => ?_)
      refine lv_aload_nN hx hb dd_C_known_24 rfl (lv_at hl 0 rfl) ?_
      refine lv_ifnonnullN hx hb dd_C_known_25 ?_
      refine cx_thrS (E := xn_IAE) (text := "no such hydrant") hx hb hT (by rw [hml]; exact hl.1.symm) hown hg hK hw (by decide +kernel) gk_C_54 gn_IllegalArgumentException xg_IAE xb_IAE xo_IAE (by decide +kernel) dd_C_known_28 dd_C_known_31 dd_C_known_32 dd_C_known_34 dd_C_known_37 hout ⟨by decide, Nat.le_of_ble_eq_true rfl, by decide, by decide⟩ hlocks (by decide) (by decide) ?_
      exact ⟨rfl, rfl, by rw [su_kn, if_neg c1, if_pos c2]⟩
    · skip
      refine lv_aload_n hx hb dd_C_known_13 rfl (lv_at hl 0 rfl) ?_
      refine pm_get (ci := 0) (C := cn_C) (T := cf_C) (N := 8) (v := .ref aH) hx hb hg gu_C hown hK.2.1 hw f0 rfl 0 (by decide) (hg _ gf_C_11) (fun _ h9 => h9) rfl dd_C_known_14 ?_
      refine lv_iload_n hx hb dd_C_known_17 rfl (lv_at hl 1 rfl) ?_
      refine pm_aald hx hb hK.2.1 hw 3 f1 rfl (vp_in_ge (n := 40) (by decide) c1 c2) dd_C_known_18 ?_
      rcases hq : (fH p1.toNatClampNeg) with _ | q1
      · skip
        refine W.eq (g2 := F0 m 19 ls [.null]) rfl ?_
        refine lv_goto (tgt := 23) hx hb dd_C_known_19 (by decide) ?_
        refine lv_astore_nN (lv' := [(2, .null), (0, .ref h0), (1, .int p1)]) hx hb dd_C_known_23 rfl hl (by decide) rfl (fun ls hl => ?_)
        refine lv_aload_nN hx hb dd_C_known_24 rfl (lv_at hl 0 rfl) ?_
        refine lv_ifnonnullN hx hb dd_C_known_25 ?_
        refine cx_thrS (E := xn_IAE) (text := "no such hydrant") hx hb hT (by rw [hml]; exact hl.1.symm) hown hg hK hw (by decide +kernel) gk_C_54 gn_IllegalArgumentException xg_IAE xb_IAE xo_IAE (by decide +kernel) dd_C_known_28 dd_C_known_31 dd_C_known_32 dd_C_known_34 dd_C_known_37 hout ⟨by decide, Nat.le_of_ble_eq_true rfl, by decide, by decide⟩ hlocks (by decide) (by decide) ?_
        exact ⟨rfl, rfl, by rw [su_kn, if_neg c1, if_neg c2, hq]⟩
      · skip
        refine W.eq (g2 := F0 m 19 ls [.ref q1]) rfl ?_
        refine lv_goto (tgt := 23) hx hb dd_C_known_19 (by decide) ?_
        refine lv_astore_n (lv' := [(2, .ref q1), (0, .ref h0), (1, .int p1)]) hx hb dd_C_known_23 rfl hl (by decide) rfl (fun ls hl => ?_)
        refine lv_aload_n hx hb dd_C_known_24 rfl (lv_at hl 0 rfl) ?_
        refine lv_ifnonnull (tgt := 38) hx hb dd_C_known_25 (by decide) ?_
        refine lv_aload_n hx hb dd_C_known_38 rfl (lv_at hl 0 rfl) ?_
        refine vx_ret (cx_aret (v := q1) hx hb hr hlocks hw dd_C_known_39 (by decide) (by decide) ?_)
        exact ⟨q1, rfl, rfl, by rw [su_kn, if_neg c1, if_neg c2, hq]⟩

set_option maxHeartbeats 4000000 in
set_option maxRecDepth 100000 in
theorem c_C_countingTest (l : Launch) (hT : l.stackTraces = false) (z : Nat) (D : va_G) (ac : Nat → ClassId) (sa : Nat → Nat) (P : pm_T) (h0 aw : Nat) (vn vx vy vm vk vc vd vr vt : Int32) (ct : Option Nat) (f0 : P h0 = some (.inr (1, [.int vn, .int vx, .int vy, .int vm, .int vk, .ref aw, .int vc, .int vd, .int vr, .int vt, va_rf ct]))) : cx_V l yy_C_countingTest bb_C_countingTest 2 (some (.object "HydrantRows$Test")) ({ frames := 6, cells := 1, slots := 6, locals := 90 } : Room) z D ac sa P [.ref h0] (fun v P' => ∃ q : Nat, v = some (.ref q) ∧ P' = P ∧ ct = some q) (fun E P' => E = xn_ISE ∧ P' = P ∧ ct = none) := by
  refine cx_ofV (by decide) (Nat.le_of_ble_eq_true rfl) (fun p e s m below meth c ls hx hb hr hml hg hown hlocks hout hK hw hl => ?_)
  have hl : lv_has ls 2 [(0, .ref h0)] := hl
  have hown : s.vm.findClass cn_C = some m.cls := hown
  refine lv_aload_n hx hb dd_C_countingTest_0 rfl (lv_at hl 0 rfl) ?_
  refine pm_get (ci := 1) (C := cn_H) (T := cf_H) (N := 11) (v := va_rf ct) hx hb hg gu_H hown hK.2.1 hw f0 rfl 10 (by decide) (hg _ gf_C_257) (fun _ h9 => h9) rfl dd_C_countingTest_1 ?_
  rcases ct with _ | q1
  · skip
    refine W.eq (g2 := F0 m 4 ls [.null]) rfl ?_
    refine lv_astore_nN (lv' := [(1, .null), (0, .ref h0)]) hx hb dd_C_countingTest_4 rfl hl (by decide) rfl (fun ls hl => ?_)
    refine lv_aload_nN hx hb dd_C_countingTest_5 rfl (lv_at hl 0 rfl) ?_
    refine lv_ifnonnullN hx hb dd_C_countingTest_6 ?_
    refine cx_thrSW (E := xn_ISE) (text := "it has no test") hx hb hT (by rw [hml]; exact hl.1.symm) hown hg hK hw (by decide +kernel) gk_C_86 gn_IllegalStateException xg_ISE xb_ISE xo_ISE (by decide +kernel) dd_C_countingTest_9 dd_C_countingTest_12 dd_C_countingTest_13 dd_C_countingTest_16 dd_C_countingTest_19 hout ⟨by decide, Nat.le_of_ble_eq_true rfl, by decide, by decide⟩ hlocks (by decide) (by decide) ?_
    exact ⟨rfl, rfl, rfl⟩
  · skip
    refine W.eq (g2 := F0 m 4 ls [.ref q1]) rfl ?_
    refine lv_astore_n (lv' := [(1, .ref q1), (0, .ref h0)]) hx hb dd_C_countingTest_4 rfl hl (by decide) rfl (fun ls hl => ?_)
    refine lv_aload_n hx hb dd_C_countingTest_5 rfl (lv_at hl 0 rfl) ?_
    refine lv_ifnonnull (tgt := 20) hx hb dd_C_countingTest_6 (by decide) ?_
    refine lv_aload_n hx hb dd_C_countingTest_20 rfl (lv_at hl 0 rfl) ?_
    refine vx_ret (cx_aret (v := q1) hx hb hr hlocks hw dd_C_countingTest_21 (by decide) (by decide) ?_)
    exact ⟨q1, rfl, rfl, rfl⟩

set_option maxHeartbeats 4000000 in
set_option maxRecDepth 100000 in
theorem c_C_needTold (l : Launch) (hT : l.stackTraces = false) (z : Nat) (D : va_G) (ac : Nat → ClassId) (sa : Nat → Nat) (P : pm_T) (h0 : Nat) (tn th td tr tf tl : Int32) (p1 : Int32) (f0 : P h0 = some (.inr (2, [.int tn, .int th, .int td, .int tr, .int tf, .int tl]))) : cx_V l yy_C_needTold bb_C_needTold 2 none ({ frames := 6, cells := 1, slots := 6, locals := 90 } : Room) z D ac sa P [.ref h0, .int p1] (fun v P' => v = none ∧ P' = P ∧ ¬ su_lo tr tl p1 ≤ 0) (fun E P' => E = xn_ARE ∧ P' = P ∧ su_lo tr tl p1 ≤ 0) := by
  refine cx_ofV (by decide) (Nat.le_of_ble_eq_true rfl) (fun p e s m below meth c ls hx hb hr hml hg hown hlocks hout hK hw hl => ?_)
  have hl : lv_has ls 2 [(0, .ref h0), (1, .int p1)] := hl
  have hown : s.vm.findClass cn_C = some m.cls := hown
  refine lv_aload_n hx hb dd_C_needTold_0 rfl (lv_at hl 0 rfl) ?_
  refine lv_iload_n hx hb dd_C_needTold_1 rfl (lv_at hl 1 rfl) ?_
  refine cx_after (cx_rV (n := 1) (As := [.int p1]) (rest := []) ⟨hx, hb, hml, hown, hg⟩ (c_T_canTell l z D ac sa P h0 tn th td tr tf tl p1 f0) (cx_gv gm_C_263 gi_T_canTell gs_T_canTell gn_T gc_T_canTell) (by decide +kernel) ⟨by decide, by decide⟩ hK hw f0 rfl rfl hl.1 rfl (Nat.le_of_ble_eq_true rfl) dd_C_needTold_2 ⟨by decide, by decide⟩) hw (fun v9 P9 H locs hp hw => ?_)
  obtain ⟨rfl, e9⟩ := hp
  rw [e9] at hw
  clear e9 P9
  refine W.eq (g2 := F0 m 5 ls [.int (if su_lo tr tl p1 ≤ 0 then 0 else 1)]) rfl ?_
  refine lv_if_ne (tgt := 19) hx hb dd_C_needTold_5 (by decide) (fun c1 => ?_) (fun c1 => ?_)
  · skip
    refine vx_ret (cx_vret hx hb hr hlocks hw dd_C_needTold_19 (by decide) (by decide) ?_)
    exact ⟨rfl, rfl, su_b1 c1⟩
  · skip
    refine cx_thrSW (E := xn_ARE) (text := "the flow can't be told") hx hb hT (by rw [hml]; exact hl.1.symm) hown hg hK hw (by decide +kernel) gk_C_267 gn_ArithmeticException xg_ARE xb_ARE xo_ARE (by decide +kernel) dd_C_needTold_8 dd_C_needTold_11 dd_C_needTold_12 dd_C_needTold_15 dd_C_needTold_18 hout ⟨by decide, Nat.le_of_ble_eq_true rfl, by decide, by decide⟩ hlocks (by decide) (by decide) ?_
    exact ⟨rfl, rfl, su_b0 c1⟩

set_option maxHeartbeats 4000000 in
set_option maxRecDepth 100000 in
theorem c_C_limitOf (l : Launch) (z : Nat) (D : va_G) (ac : Nat → ClassId) (sa : Nat → Nat) (P : pm_T) (h0 aH aT aL aK aW : Nat) (nh nt al : Int32) (lm : Nat → Int32) (p1 : Int32) (f0 : P h0 = some (.inr (0, [.ref aH, .ref aT, .ref aL, .ref aK, .ref aW, .int nh, .int nt, .int al]))) (f1 : P aL = some (.inl (ac 0, 20, .inl lm))) : cx_M l yy_C_limitOf bb_C_limitOf 2 (some .int) ({ frames := 0, cells := 0, slots := 0, locals := 0 } : Room) z D ac sa P [.ref h0, .int p1] (fun v P' => v = some (.int (su_lim p1 lm)) ∧ P' = P) := by
  refine cx_ofM (by decide) (Nat.le_of_ble_eq_true rfl) (fun p e s m below meth c ls hx hb hr hml hg hown hlocks hin hK hw hl => ?_)
  have hl : lv_has ls 2 [(0, .ref h0), (1, .int p1)] := hl
  have hown : s.vm.findClass cn_C = some m.cls := hown
  refine lv_iload_n hx hb dd_C_limitOf_0 rfl (lv_at hl 1 rfl) ?_
  refine lv_if_lt (tgt := 22) hx hb dd_C_limitOf_1 (by decide) (fun c1 => ?_) (fun c1 => ?_)
  · skip
    refine lv_iconst (v := 0) hx hb dd_C_limitOf_22 (by decide) ?_
    refine cx_iret (v := (0 : Int32)) hx hb hr rfl hlocks hw dd_C_limitOf_23 (by decide) (by decide) ?_
    exact ⟨by simp only [su_lim, if_pos c1], rfl⟩
  · skip
    refine lv_iload_n hx hb dd_C_limitOf_4 rfl (lv_at hl 1 rfl) ?_
    refine lv_aload_n hx hb dd_C_limitOf_5 rfl (lv_at hl 0 rfl) ?_
    refine pm_get (ci := 0) (C := cn_C) (T := cf_C) (N := 8) (v := .ref aL) hx hb hg gu_C hown hK.2.1 hw f0 rfl 2 (by decide) (hg _ gf_C_21) (fun _ h9 => h9) rfl dd_C_limitOf_6 ?_
    refine pm_alen (v := 20) hx hb hK.2.1 hw 0 f1 rfl rfl dd_C_limitOf_9 ?_
    refine lv_icmp_ge (tgt := 22) hx hb dd_C_limitOf_10 (by decide) (fun c2 => ?_) (fun c2 => ?_)
    · skip
      refine lv_iconst (v := 0) hx hb dd_C_limitOf_22 (by decide) ?_
      refine cx_iret (v := (0 : Int32)) hx hb hr rfl hlocks hw dd_C_limitOf_23 (by decide) (by decide) ?_
      exact ⟨by simp only [su_lim, if_neg c1, if_pos c2], rfl⟩
    · skip
      refine lv_aload_n hx hb dd_C_limitOf_13 rfl (lv_at hl 0 rfl) ?_
      refine pm_get (ci := 0) (C := cn_C) (T := cf_C) (N := 8) (v := .ref aL) hx hb hg gu_C hown hK.2.1 hw f0 rfl 2 (by decide) (hg _ gf_C_21) (fun _ h9 => h9) rfl dd_C_limitOf_14 ?_
      refine lv_iload_n hx hb dd_C_limitOf_17 rfl (lv_at hl 1 rfl) ?_
      refine pm_iald hx hb hK.2.1 hw 0 f1 rfl (vp_in_ge (n := 20) (by decide) c1 c2) dd_C_limitOf_18 ?_
      refine lv_goto (tgt := 23) hx hb dd_C_limitOf_19 (by decide) ?_
      refine cx_iret (v := (lm p1.toNatClampNeg)) hx hb hr rfl hlocks hw dd_C_limitOf_23 (by decide) (by decide) ?_
      exact ⟨by simp only [su_lim, if_neg c1, if_neg c2], rfl⟩

set_option maxHeartbeats 4000000 in
set_option maxRecDepth 100000 in
theorem c_C_toldStop (l : Launch) (z : Nat) (D : va_G) (ac : Nat → ClassId) (sa : Nat → Nat) (P : pm_T) (p0 : Int64) (p1 : Int32)  : cx_M l yy_C_toldStop bb_C_toldStop 3 (some .int) ({ frames := 0, cells := 0, slots := 0, locals := 0 } : Room) z D ac sa P [.long p0, .int p1] (fun v P' => v = some (.int (su_told p0 p1)) ∧ P' = P) := by
  refine cx_ofM (by decide) (Nat.le_of_ble_eq_true rfl) (fun p e s m below meth c ls hx hb hr hml hg hown hlocks hin hK hw hl => ?_)
  have hl : lv_has ls 3 [(0, .long p0), (2, .int p1)] := hl
  have hown : s.vm.findClass cn_C = some m.cls := hown
  refine lv_lload_n hx hb dd_C_toldStop_0 rfl (lv_at hl 0 rfl) ?_
  refine lv_bipush (v := 6) hx hb dd_C_toldStop_1 (by decide) ?_
  refine lv_iload_n hx hb dd_C_toldStop_3 rfl (lv_at hl 1 rfl) ?_
  refine lv_imul hx hb dd_C_toldStop_4 ?_
  refine lv_lushr hx hb dd_C_toldStop_5 rfl ?_
  refine lv_ldc2 (v := (63)) hx hb hown (hg _ gq_C_290) dd_C_toldStop_6 ?_
  refine lv_land hx hb dd_C_toldStop_9 ?_
  refine lv_l2i hx hb dd_C_toldStop_10 rfl ?_
  refine cx_iret (v := ((((p0).toUInt64 >>> ((((6 : Int32) * p1)).toInt64.toUInt64 &&& Int64.toUInt64 63)).toInt64 &&& (63 : Int64))).toInt32) hx hb hr rfl hlocks hw dd_C_toldStop_11 (by decide) (by decide) ?_
  exact ⟨rfl, rfl⟩
end
section
theorem nI_dec {a : Nat} : nI (a + 1) + (-1) = nI a := pk_m1 a
/-- one more key among n keys -/
def su_ins (kf kg : Nat → Int32) (n a : Nat) (ky : Int32) : Prop := a ≤ n ∧ (∀ j, j < a → kg j = kf j) ∧ kg a = ky ∧ (∀ j, a ≤ j → j < n → kg (j + 1) = kf j) ∧ (∀ j, a ≤ j → j < n → ky < kf j) ∧ (a = 0 ∨ kf (a - 1) ≤ ky)

set_option maxHeartbeats 4000000 in
set_option maxRecDepth 100000 in
theorem c_K_insert (l : Launch) (z : Nat) (D : va_G) (ac : Nat → ClassId) (sa : Nat → Nat) (P : pm_T) (h0 ak n : Nat) (kf : Nat → Int32) (p1 p2 : Int32) (hn : n < 40) (f0 : P h0 = some (.inr (4, [.ref ak, .int (nI n)]))) (f1 : P ak = some (.inl (ac 0, 40, .inl kf))) : cx_M l yy_K_insert bb_K_insert 5 none ({ frames := 0, cells := 0, slots := 0, locals := 0 } : Room) z D ac sa P [.ref h0, .int p1, .int p2] (fun v P' => v = none ∧ ∃ (a : Nat) (kg : Nat → Int32), su_ins kf kg n a (p1 * 40 + p2) ∧ P' = pm_up (pm_up P ak (.inl (ac 0, 40, .inl kg))) h0 (.inr (4, [.ref ak, .int (nI n + 1)]))) := by
  refine cx_ofM (by decide) (Nat.le_of_ble_eq_true rfl) (fun p e s m below meth c ls hx hb hr hml hg hown hlocks hin hK hw hl => ?_)
  have hl : lv_has ls 5 [(0, .ref h0), (1, .int p1), (2, .int p2)] := hl
  have hown : s.vm.findClass cn_K = some m.cls := hown
  have ex : ∀ (ky : Int32) (a : Nat) (kg : Nat → Int32) (Pk : pm_T), ky = p1 * 40 + p2 → a ≤ n → (∀ j, j < a → kg j = kf j) → (∀ j, a ≤ j → j < n → kg (j + 1) = kf j) → (∀ j, a ≤ j → j < n → ky < kf j) → (a = 0 ∨ kf (a - 1) ≤ ky) → Pk = pm_up P ak (.inl (ac 0, 40, .inl kg)) → ∀ (H : Heap) (locs : List Loc) (ls : Array Slot), pm_W z D cl_w Pk s.heap H locs → lv_has ls 5 [(4, .int (nI a)), (3, .int ky), (0, .ref h0), (1, .int p1), (2, .int p2)] → W p l e ({ frames := 0, cells := 0, slots := 0, locals := 0 } : Room) s m ([.ref h0, .int p1, .int p2] : List Value).toArray below meth c H locs 0 0 (MQ below (cx_Q z D (fun v P' => v = none ∧ ∃ (a : Nat) (kg : Nat → Int32), su_ins kf kg n a (p1 * 40 + p2) ∧ P' = pm_up (pm_up P ak (.inl (ac 0, 40, .inl kg))) h0 (.inr (4, [.ref ak, .int (nI n + 1)])))) ([.ref h0, .int p1, .int p2] : List Value).toArray s ({ frames := 0, cells := 0, slots := 0, locals := 0 } : Room).cells ({ frames := 0, cells := 0, slots := 0, locals := 0 } : Room).slots (pm_A z)) (F0 m 73 ls []) := by
    intro ky a kg Pk hky ha i1 i2 i3 i4 ePk H locs ls hw hl
    have f0 : Pk h0 = some (.inr (4, [.ref ak, .int (nI n)])) := by rw [ePk, pm_n (pm_ne f0 f1 (by simp))]; exact f0
    have f1 : Pk ak = some (.inl (ac 0, 40, .inl kg)) := by rw [ePk]; exact pm_s
    have hcl : (nI a).toNatClampNeg = a := nI_clamp (by omega)
    refine lv_aload_n hx hb dd_K_insert_73 rfl (lv_at hl 2 rfl) ?_
    refine pm_get (ci := 4) (C := cn_K) (T := cf_K) (N := 2) (v := .ref ak) hx hb hg gu_K hown hK.2.1 hw f0 rfl 0 (by decide) (hg _ gf_K_9) (fun _ h9 => h9) rfl dd_K_insert_74 ?_
    refine lv_iload hx hb dd_K_insert_77 (lv_at hl 0 rfl) ?_
    refine lv_iload_n hx hb dd_K_insert_79 rfl (lv_at hl 1 rfl) ?_
    refine pm_iast (x := ky) hx hb hK.2.1 hw 0 f1 rfl (vp_in_nI (n := a) (by omega) (by decide)) dd_K_insert_80 (fun H locs hw => ?_)
    have hw : pm_W z D cl_w (pm_up Pk ak (.inl (ac 0, 40, .inl (upd kg ((nI a).toNatClampNeg) ky)))) s.heap H _ := hw
    obtain ⟨P1, eP1⟩ : ∃ q : pm_T, q = pm_up Pk ak (.inl (ac 0, 40, .inl (upd kg ((nI a).toNatClampNeg) ky))) := ⟨_, rfl⟩
    rw [← eP1] at hw
    have f2 : P1 h0 = some (.inr (4, [.ref ak, .int (nI n)])) := by rw [eP1, pm_n (pm_ne f0 f1 (by simp))]; exact f0
    have f3 : P1 ak = some (.inl (ac 0, 40, .inl (upd kg ((nI a).toNatClampNeg) ky))) := by rw [eP1]; exact pm_s
    refine lv_aload_n hx hb dd_K_insert_81 rfl (lv_at hl 2 rfl) ?_
    refine lv_dup hx hb dd_K_insert_82 rfl ?_
    refine pm_get (ci := 4) (C := cn_K) (T := cf_K) (N := 2) (v := .int (nI n)) hx hb hg gu_K hown hK.2.1 hw f2 rfl 1 (by decide) (hg _ gf_K_15) (fun _ h9 => h9) rfl dd_K_insert_83 ?_
    refine lv_iconst (v := 1) hx hb dd_K_insert_86 (by decide) ?_
    refine lv_iadd hx hb dd_K_insert_87 ?_
    refine lv_topi (fun x4 ex4 => ?_)
    refine pm_put (ci := 4) (v := .int x4) (ty := .int) (C := cn_K) (T := cf_K) (N := 2) hx hb hg gu_K ct_K co_K cm_K hown hK.2.1 hw f2 rfl 1 (by decide) (hg _ gf_K_15) (fun _ h9 => h9) rfl (by decide +kernel) rfl rfl (Nat.le_of_ble_eq_true rfl) dd_K_insert_88 (fun H locs hw => ?_)
    have hw : pm_W z D cl_w (pm_up P1 h0 (.inr (4, [.ref ak, .int x4]))) s.heap H _ := hw
    obtain ⟨P5, eP5⟩ : ∃ q : pm_T, q = pm_up P1 h0 (.inr (4, [.ref ak, .int x4])) := ⟨_, rfl⟩
    rw [← eP5] at hw
    have f6 : P5 ak = some (.inl (ac 0, 40, .inl (upd kg ((nI a).toNatClampNeg) ky))) := by rw [eP5, pm_n (pm_ne f3 f2 (by simp))]; exact f3
    have f7 : P5 h0 = some (.inr (4, [.ref ak, .int x4])) := by rw [eP5]; exact pm_s
    refine cx_vret hx hb hr hlocks hw dd_K_insert_91 (by decide) (by decide) ?_
    refine ⟨rfl, a, upd kg a ky, ⟨ha, fun j h => ?_, ?_, fun j h1 h2 => ?_, ?_, ?_⟩, ?_⟩
    · rw [pk_un (Nat.ne_of_lt h)]; exact i1 j h
    · rw [pk_us]; exact hky
    · rw [pk_un (by omega)]; exact i2 j h1 h2
    · rw [← hky]; exact i3
    · rw [← hky]; exact i4
    · simp only [eP5, eP1, ePk, ex4, pm_uu, hcl]
  have lp : ∀ (ky : Int32) (a : Nat), ∀ (kg : Nat → Int32) (Pk : pm_T), ky = p1 * 40 + p2 → a ≤ n → (∀ j, j < a → kg j = kf j) → (∀ j, a ≤ j → j < n → kg (j + 1) = kf j) → (∀ j, a ≤ j → j < n → ky < kf j) → Pk = pm_up P ak (.inl (ac 0, 40, .inl kg)) → ∀ (H : Heap) (locs : List Loc) (ls : Array Slot), pm_W z D cl_w Pk s.heap H locs → lv_has ls 5 [(4, .int (nI a)), (3, .int ky), (0, .ref h0), (1, .int p1), (2, .int p2)] → W p l e ({ frames := 0, cells := 0, slots := 0, locals := 0 } : Room) s m ([.ref h0, .int p1, .int p2] : List Value).toArray below meth c H locs 0 0 (MQ below (cx_Q z D (fun v P' => v = none ∧ ∃ (a : Nat) (kg : Nat → Int32), su_ins kf kg n a (p1 * 40 + p2) ∧ P' = pm_up (pm_up P ak (.inl (ac 0, 40, .inl kg))) h0 (.inr (4, [.ref ak, .int (nI n + 1)])))) ([.ref h0, .int p1, .int p2] : List Value).toArray s ({ frames := 0, cells := 0, slots := 0, locals := 0 } : Room).cells ({ frames := 0, cells := 0, slots := 0, locals := 0 } : Room).slots (pm_A z)) (F0 m 33 ls []) := by
    intro ky a
    induction a with
    | zero =>
      intro kg Pk hky ha i1 i2 i3 ePk H locs ls hw hl
      refine lv_iload hx hb dd_K_insert_33 (lv_at hl 0 rfl) ?_
      refine lv_if_le (tgt := 73) hx hb dd_K_insert_35 (by decide) (fun c1 => ?_) (fun c1 => absurd (by decide) c1)
      exact ex ky 0 kg Pk hky ha i1 i2 i3 (Or.inl rfl) ePk H locs ls hw hl
    | succ a ih =>
      intro kg Pk hky ha i1 i2 i3 ePk H locs ls hw hl
      have f0 : Pk h0 = some (.inr (4, [.ref ak, .int (nI n)])) := by rw [ePk, pm_n (pm_ne f0 f1 (by simp))]; exact f0
      have f1 : Pk ak = some (.inl (ac 0, 40, .inl kg)) := by rw [ePk]; exact pm_s
      have hs : nI (a + 1) - 1 = nI a := nI_pred a
      have hcl : (nI a).toNatClampNeg = a := nI_clamp (by omega)
      have hcl1 : (nI (a + 1)).toNatClampNeg = a + 1 := nI_clamp (by omega)
      refine lv_iload hx hb dd_K_insert_33 (lv_at hl 0 rfl) ?_
      refine lv_if_le (tgt := 73) hx hb dd_K_insert_35 (by decide) (fun c8 => absurd c8 (nI_nle (Nat.succ_pos a) (by omega))) (fun c8 => ?_)
      refine lv_aload_n hx hb dd_K_insert_38 rfl (lv_at hl 2 rfl) ?_
      refine pm_get (ci := 4) (C := cn_K) (T := cf_K) (N := 2) (v := .ref ak) hx hb hg gu_K hown hK.2.1 hw f0 rfl 0 (by decide) (hg _ gf_K_9) (fun _ h9 => h9) rfl dd_K_insert_39 ?_
      refine lv_iload hx hb dd_K_insert_42 (lv_at hl 0 rfl) ?_
      refine lv_iconst (v := 1) hx hb dd_K_insert_44 (by decide) ?_
      refine lv_isub hx hb dd_K_insert_45 ?_
      refine pm_iald hx hb hK.2.1 hw 0 f1 rfl (by rw [hs]; exact vp_in_nI (by omega) (by decide)) dd_K_insert_46 ?_
      refine lv_iload_n hx hb dd_K_insert_47 rfl (lv_at hl 1 rfl) ?_
      refine lv_icmp_le (tgt := 73) hx hb dd_K_insert_48 (by decide) (fun c9 => ?_) (fun c9 => ?_)
      · skip
        rw [hs, hcl, i1 a (Nat.lt_succ_self a)] at c9
        exact ex ky (a + 1) kg Pk hky ha i1 i2 i3 (Or.inr c9) ePk H locs ls hw (lv_sub hl [0, 1, 2, 3, 4] rfl)
      · skip
        refine lv_aload_n hx hb dd_K_insert_51 rfl (lv_at hl 2 rfl) ?_
        refine pm_get (ci := 4) (C := cn_K) (T := cf_K) (N := 2) (v := .ref ak) hx hb hg gu_K hown hK.2.1 hw f0 rfl 0 (by decide) (hg _ gf_K_9) (fun _ h9 => h9) rfl dd_K_insert_52 ?_
        refine lv_iload hx hb dd_K_insert_55 (lv_at hl 0 rfl) ?_
        refine lv_aload_n hx hb dd_K_insert_57 rfl (lv_at hl 2 rfl) ?_
        refine pm_get (ci := 4) (C := cn_K) (T := cf_K) (N := 2) (v := .ref ak) hx hb hg gu_K hown hK.2.1 hw f0 rfl 0 (by decide) (hg _ gf_K_9) (fun _ h9 => h9) rfl dd_K_insert_58 ?_
        refine lv_iload hx hb dd_K_insert_61 (lv_at hl 0 rfl) ?_
        refine lv_iconst (v := 1) hx hb dd_K_insert_63 (by decide) ?_
        refine lv_isub hx hb dd_K_insert_64 ?_
        refine pm_iald hx hb hK.2.1 hw 0 f1 rfl (by rw [hs]; exact vp_in_nI (by omega) (by decide)) dd_K_insert_65 ?_
        refine lv_topi (fun x10 ex10 => ?_)
        refine pm_iast (x := x10) hx hb hK.2.1 hw 0 f1 rfl (vp_in_nI (by omega) (by decide)) dd_K_insert_66 (fun H locs hw => ?_)
        have hw : pm_W z D cl_w (pm_up Pk ak (.inl (ac 0, 40, .inl (upd kg ((nI (a + 1)).toNatClampNeg) x10)))) s.heap H _ := hw
        obtain ⟨P11, eP11⟩ : ∃ q : pm_T, q = pm_up Pk ak (.inl (ac 0, 40, .inl (upd kg ((nI (a + 1)).toNatClampNeg) x10))) := ⟨_, rfl⟩
        rw [← eP11] at hw
        have f12 : P11 h0 = some (.inr (4, [.ref ak, .int (nI n)])) := by rw [eP11, pm_n (pm_ne f0 f1 (by simp))]; exact f0
        have f13 : P11 ak = some (.inl (ac 0, 40, .inl (upd kg ((nI (a + 1)).toNatClampNeg) x10))) := by rw [eP11]; exact pm_s
        obtain ⟨x14, ex14⟩ : ∃ y : Int32, y = (nI (a + 1)) + (-1) := ⟨_, rfl⟩
        refine lv_iinc (v := x14) (lv' := [(4, .int x14), (3, .int ky), (0, .ref h0), (1, .int p1), (2, .int p2)]) hx hb dd_K_insert_67 hl (k := 0) rfl (by rw [ex14]; rfl) (by decide) rfl (fun ls hl => ?_)
        refine lv_goto (tgt := 33) hx hb dd_K_insert_70 (by decide) ?_
        rw [hs, hcl, i1 a (Nat.lt_succ_self a)] at c9
        have hky2 : ky < kf a := Int32.not_le.mp c9
        rw [hcl1, ex10, hs, hcl] at eP11
        have hx4 : x14 = nI a := by rw [ex14]; exact nI_dec
        rw [hx4] at hl
        refine ih (upd kg (a + 1) (kg a)) P11 hky (by omega) (fun j h => ?_) (fun j h1 h2 => ?_) (fun j h1 h2 => ?_) ?_ H locs ls hw (lv_sub hl [0, 1, 2, 3, 4] rfl)
        · rw [pk_un (by omega)]; exact i1 j (by omega)
        · by_cases hj : j = a
          · rw [hj, pk_us]; exact i1 a (Nat.lt_succ_self a)
          · rw [pk_un (by omega)]; exact i2 j (by omega) h2
        · by_cases hj : j = a
          · rw [hj]; exact hky2
          · exact i3 j (by omega) h2
        · rw [eP11, ePk, pm_uu]
  refine lv_aload_n hx hb dd_K_insert_0 rfl (lv_at hl 0 rfl) ?_
  refine pm_get (ci := 4) (C := cn_K) (T := cf_K) (N := 2) (v := .int (nI n)) hx hb hg gu_K hown hK.2.1 hw f0 rfl 1 (by decide) (hg _ gf_K_15) (fun _ h9 => h9) rfl dd_K_insert_1 ?_
  refine lv_if_lt (tgt := 19) hx hb dd_K_insert_4 (by decide) (fun c15 => absurd c15 (nI_pos (by omega))) (fun c15 => ?_)
  refine lv_aload_n hx hb dd_K_insert_7 rfl (lv_at hl 0 rfl) ?_
  refine pm_get (ci := 4) (C := cn_K) (T := cf_K) (N := 2) (v := .int (nI n)) hx hb hg gu_K hown hK.2.1 hw f0 rfl 1 (by decide) (hg _ gf_K_15) (fun _ h9 => h9) rfl dd_K_insert_8 ?_
  refine lv_aload_n hx hb dd_K_insert_11 rfl (lv_at hl 0 rfl) ?_
  refine pm_get (ci := 4) (C := cn_K) (T := cf_K) (N := 2) (v := .ref ak) hx hb hg gu_K hown hK.2.1 hw f0 rfl 0 (by decide) (hg _ gf_K_9) (fun _ h9 => h9) rfl dd_K_insert_12 ?_
  refine pm_alen (v := 40) hx hb hK.2.1 hw 0 f1 rfl rfl dd_K_insert_15 ?_
  refine lv_icmp_lt (tgt := 20) hx hb dd_K_insert_16 (by decide) (fun c16 => ?_) (fun c16 => absurd (nI_lt hn (by decide)) c16)
  refine lv_iload_n hx hb dd_K_insert_20 rfl (lv_at hl 1 rfl) ?_
  refine lv_bipush (v := 40) hx hb dd_K_insert_21 (by decide) ?_
  refine lv_imul hx hb dd_K_insert_23 ?_
  refine lv_iload_n hx hb dd_K_insert_24 rfl (lv_at hl 2 rfl) ?_
  refine lv_iadd hx hb dd_K_insert_25 ?_
  refine lv_topi (fun x17 ex17 => ?_)
  refine lv_istore_n (lv' := [(3, .int x17), (0, .ref h0), (1, .int p1), (2, .int p2)]) hx hb dd_K_insert_26 rfl hl (by decide) rfl (fun ls hl => ?_)
  refine lv_aload_n hx hb dd_K_insert_27 rfl (lv_at hl 1 rfl) ?_
  refine pm_get (ci := 4) (C := cn_K) (T := cf_K) (N := 2) (v := .int (nI n)) hx hb hg gu_K hown hK.2.1 hw f0 rfl 1 (by decide) (hg _ gf_K_15) (fun _ h9 => h9) rfl dd_K_insert_28 ?_
  refine lv_istore (lv' := [(4, .int (nI n)), (3, .int x17), (0, .ref h0), (1, .int p1), (2, .int p2)]) hx hb dd_K_insert_31 hl (by decide) rfl (fun ls hl => ?_)
  exact lp x17 n kf P ex17 (Nat.le_refl n) (fun _ _ => rfl) (fun j h1 h2 => absurd h1 (by omega)) (fun j h1 h2 => absurd h1 (by omega)) (pm_id f1).symm _ _ ls hw (lv_sub hl [0, 1, 2, 3, 4] rfl)
end
section
/-- does a work at a hydrant meet the days p1 .. p2 -/
def su_m1 (wf wt : Nat → Int32) (p1 p2 : Int32) (o : Option Nat) : Int32 := match o with
  | none => 0
  | some q => if wt q < p1 then 0 else if p2 < wf q then 0 else 1
def su_m3 (wf wt : Nat → Int32) (p1 p2 : Int32) (fw : Nat → Option Nat) : Int32 := if su_m1 wf wt p1 p2 (fw 0) = 0 then (if su_m1 wf wt p1 p2 (fw 1) = 0 then (if su_m1 wf wt p1 p2 (fw 2) = 0 then 0 else 1) else 1) else 1
def su_us (vd vk vr al d : Int32) (wf wt : Nat → Int32) (fw : Nat → Option Nat) : Int32 := if vd = 2 then 0 else if vk = 1 ∧ al = 0 then 0 else if su_dry vr d = 0 then (if su_m3 wf wt d d fw = 0 then 1 else 0) else 0

set_option maxHeartbeats 4000000 in
set_option maxRecDepth 100000 in
theorem c_H_hasWorksWithin (l : Launch) (z : Nat) (D : va_G) (ac : Nat → ClassId) (sa : Nat → Nat) (P : pm_T) (h0 aw : Nat) (vn vx vy vm vk vc vd vr vt : Int32) (ct : Option Nat) (wf wt : Nat → Int32) (fw : Nat → Option Nat) (p1 p2 : Int32) (fo : ∀ k q, fw k = some q → P q = some (.inr (3, [.int (wf q), .int (wt q)]))) (f0 : P h0 = some (.inr (1, [.int vn, .int vx, .int vy, .int vm, .int vk, .ref aw, .int vc, .int vd, .int vr, .int vt, va_rf ct]))) (f1 : P aw = some (.inl (ac 5, 3, .inr (.inr (.inr (.inr fw)))))) : cx_M l yy_H_hasWorksWithin bb_H_hasWorksWithin 7 (some .boolean) ({ frames := 1, cells := 0, slots := 0, locals := 22 } : Room) z D ac sa P [.ref h0, .int p1, .int p2] (fun v P' => v = some (.int (su_m3 wf wt p1 p2 fw)) ∧ P' = P) := by
  refine cx_ofM (by decide) (Nat.le_of_ble_eq_true rfl) (fun p e s m below meth c ls hx hb hr hml hg hown hlocks hin hK hw hl => ?_)
  have hl : lv_has ls 7 [(0, .ref h0), (1, .int p1), (2, .int p2)] := hl
  have hown : s.vm.findClass cn_H = some m.cls := hown
  refine lv_aload_n hx hb dd_H_hasWorksWithin_0 rfl (lv_at hl 0 rfl) ?_
  refine pm_get (ci := 1) (C := cn_H) (T := cf_H) (N := 11) (v := .ref aw) hx hb hg gu_H hown hK.2.1 hw f0 rfl 5 (by decide) (hg _ gf_H_11) (fun _ h9 => h9) rfl dd_H_hasWorksWithin_1 ?_
  refine lv_astore_n (lv' := [(3, .ref aw), (0, .ref h0), (1, .int p1), (2, .int p2)]) hx hb dd_H_hasWorksWithin_4 rfl hl (by decide) rfl (fun ls hl => ?_)
  refine lv_aload_n hx hb dd_H_hasWorksWithin_5 rfl (lv_at hl 0 rfl) ?_
  refine pm_alen (v := 3) hx hb hK.2.1 hw 5 f1 rfl rfl dd_H_hasWorksWithin_6 ?_
  refine lv_istore (lv' := [(4, .int (3 : Int32)), (3, .ref aw), (0, .ref h0), (1, .int p1), (2, .int p2)]) hx hb dd_H_hasWorksWithin_7 hl (by decide) rfl (fun ls hl => ?_)
  refine lv_iconst (v := 0) hx hb dd_H_hasWorksWithin_9 (by decide) ?_
  refine lv_istore (lv' := [(5, .int (0 : Int32)), (4, .int (3 : Int32)), (3, .ref aw), (0, .ref h0), (1, .int p1), (2, .int p2)]) hx hb dd_H_hasWorksWithin_10 hl (by decide) rfl (fun ls hl => ?_)
  refine lv_iload hx hb dd_H_hasWorksWithin_12 (lv_at hl 0 rfl) ?_
  refine lv_iload hx hb dd_H_hasWorksWithin_14 (lv_at hl 1 rfl) ?_
  refine lv_icmp_ge (tgt := 48) hx hb dd_H_hasWorksWithin_16 (by decide) (fun c1 => absurd c1 (by decide)) (fun c1 => ?_)
  refine lv_aload_n hx hb dd_H_hasWorksWithin_19 rfl (lv_at hl 2 rfl) ?_
  refine lv_iload hx hb dd_H_hasWorksWithin_20 (lv_at hl 0 rfl) ?_
  refine pm_aald hx hb hK.2.1 hw 5 f1 rfl (show vp_in (0 : Int32) 3 from vp_in_nI (n := 0) (by decide) (by decide)) dd_H_hasWorksWithin_22 ?_
  refine W.eq (g2 := F0 m 23 ls [va_rf (fw 0)]) rfl ?_
  rcases hq0 : fw 0 with _ | q0
  · skip
    refine W.eq (g2 := F0 m 23 ls [.null]) rfl ?_
    have d0 : su_m1 wf wt p1 p2 (fw 0) = 0 := by rw [hq0]; rfl
    refine lv_astoreN (lv' := [(6, .null), (5, .int (0 : Int32)), (4, .int (3 : Int32)), (3, .ref aw), (0, .ref h0), (1, .int p1), (2, .int p2)]) hx hb dd_H_hasWorksWithin_23 hl (by decide) rfl (fun ls hl => ?_)
    refine lv_aloadN hx hb dd_H_hasWorksWithin_25 (lv_at hl 0 rfl) ?_
    refine lv_ifnullN (tgt := 42) hx hb dd_H_hasWorksWithin_27 (by decide) ?_
    refine lv_iinc (v := (1)) (lv' := [(5, .int (1 : Int32)), (6, .null), (4, .int (3 : Int32)), (3, .ref aw), (0, .ref h0), (1, .int p1), (2, .int p2)]) hx hb dd_H_hasWorksWithin_42 hl (k := 1) rfl (by decide) (by decide) rfl (fun ls hl => ?_)
    refine lv_goto (tgt := 12) hx hb dd_H_hasWorksWithin_45 (by decide) ?_
    refine lv_iload hx hb dd_H_hasWorksWithin_12 (lv_at hl 0 rfl) ?_
    refine lv_iload hx hb dd_H_hasWorksWithin_14 (lv_at hl 2 rfl) ?_
    refine lv_icmp_ge (tgt := 48) hx hb dd_H_hasWorksWithin_16 (by decide) (fun c2 => absurd c2 (by decide)) (fun c2 => ?_)
    refine lv_aload_n hx hb dd_H_hasWorksWithin_19 rfl (lv_at hl 3 rfl) ?_
    refine lv_iload hx hb dd_H_hasWorksWithin_20 (lv_at hl 0 rfl) ?_
    refine pm_aald hx hb hK.2.1 hw 5 f1 rfl (show vp_in (1 : Int32) 3 from vp_in_nI (n := 1) (by decide) (by decide)) dd_H_hasWorksWithin_22 ?_
    refine W.eq (g2 := F0 m 23 ls [va_rf (fw 1)]) rfl ?_
    rcases hq1 : fw 1 with _ | q1
    · skip
      refine W.eq (g2 := F0 m 23 ls [.null]) rfl ?_
      have d1 : su_m1 wf wt p1 p2 (fw 1) = 0 := by rw [hq1]; rfl
      refine lv_astoreN (lv' := [(6, .null), (5, .int (1 : Int32)), (4, .int (3 : Int32)), (3, .ref aw), (0, .ref h0), (1, .int p1), (2, .int p2)]) hx hb dd_H_hasWorksWithin_23 hl (by decide) rfl (fun ls hl => ?_)
      refine lv_aloadN hx hb dd_H_hasWorksWithin_25 (lv_at hl 0 rfl) ?_
      refine lv_ifnullN (tgt := 42) hx hb dd_H_hasWorksWithin_27 (by decide) ?_
      refine lv_iinc (v := (2)) (lv' := [(5, .int (2 : Int32)), (6, .null), (4, .int (3 : Int32)), (3, .ref aw), (0, .ref h0), (1, .int p1), (2, .int p2)]) hx hb dd_H_hasWorksWithin_42 hl (k := 1) rfl (by decide) (by decide) rfl (fun ls hl => ?_)
      refine lv_goto (tgt := 12) hx hb dd_H_hasWorksWithin_45 (by decide) ?_
      refine lv_iload hx hb dd_H_hasWorksWithin_12 (lv_at hl 0 rfl) ?_
      refine lv_iload hx hb dd_H_hasWorksWithin_14 (lv_at hl 2 rfl) ?_
      refine lv_icmp_ge (tgt := 48) hx hb dd_H_hasWorksWithin_16 (by decide) (fun c3 => absurd c3 (by decide)) (fun c3 => ?_)
      refine lv_aload_n hx hb dd_H_hasWorksWithin_19 rfl (lv_at hl 3 rfl) ?_
      refine lv_iload hx hb dd_H_hasWorksWithin_20 (lv_at hl 0 rfl) ?_
      refine pm_aald hx hb hK.2.1 hw 5 f1 rfl (show vp_in (2 : Int32) 3 from vp_in_nI (n := 2) (by decide) (by decide)) dd_H_hasWorksWithin_22 ?_
      refine W.eq (g2 := F0 m 23 ls [va_rf (fw 2)]) rfl ?_
      rcases hq2 : fw 2 with _ | q2
      · skip
        refine W.eq (g2 := F0 m 23 ls [.null]) rfl ?_
        have d2 : su_m1 wf wt p1 p2 (fw 2) = 0 := by rw [hq2]; rfl
        refine lv_astoreN (lv' := [(6, .null), (5, .int (2 : Int32)), (4, .int (3 : Int32)), (3, .ref aw), (0, .ref h0), (1, .int p1), (2, .int p2)]) hx hb dd_H_hasWorksWithin_23 hl (by decide) rfl (fun ls hl => ?_)
        refine lv_aloadN hx hb dd_H_hasWorksWithin_25 (lv_at hl 0 rfl) ?_
        refine lv_ifnullN (tgt := 42) hx hb dd_H_hasWorksWithin_27 (by decide) ?_
        refine lv_iinc (v := (3)) (lv' := [(5, .int (3 : Int32)), (6, .null), (4, .int (3 : Int32)), (3, .ref aw), (0, .ref h0), (1, .int p1), (2, .int p2)]) hx hb dd_H_hasWorksWithin_42 hl (k := 1) rfl (by decide) (by decide) rfl (fun ls hl => ?_)
        refine lv_goto (tgt := 12) hx hb dd_H_hasWorksWithin_45 (by decide) ?_
        refine lv_iload hx hb dd_H_hasWorksWithin_12 (lv_at hl 0 rfl) ?_
        refine lv_iload hx hb dd_H_hasWorksWithin_14 (lv_at hl 2 rfl) ?_
        refine lv_icmp_ge (tgt := 48) hx hb dd_H_hasWorksWithin_16 (by decide) (fun c4 => ?_) (fun c4 => absurd (by decide) c4)
        refine lv_iconst (v := 0) hx hb dd_H_hasWorksWithin_48 (by decide) ?_
        refine cx_iret (v := (0 : Int32)) hx hb hr (by decide) hlocks hw dd_H_hasWorksWithin_49 (by decide) (by decide) ?_
        exact ⟨by rw [su_m3, if_pos d0, if_pos d1, if_pos d2], rfl⟩
      · skip
        refine W.eq (g2 := F0 m 23 ls [.ref q2]) rfl ?_
        refine lv_astore (lv' := [(6, .ref q2), (5, .int (2 : Int32)), (4, .int (3 : Int32)), (3, .ref aw), (0, .ref h0), (1, .int p1), (2, .int p2)]) hx hb dd_H_hasWorksWithin_23 hl (by decide) rfl (fun ls hl => ?_)
        refine lv_aload hx hb dd_H_hasWorksWithin_25 (lv_at hl 0 rfl) ?_
        refine lv_ifnull hx hb dd_H_hasWorksWithin_27 ?_
        refine lv_aload hx hb dd_H_hasWorksWithin_30 (lv_at hl 0 rfl) ?_
        refine lv_iload_n hx hb dd_H_hasWorksWithin_32 rfl (lv_at hl 5 rfl) ?_
        refine lv_iload_n hx hb dd_H_hasWorksWithin_33 rfl (lv_at hl 6 rfl) ?_
        refine cx_after (cx_rV (n := 2) (As := [.int p1, .int p2]) (rest := []) ⟨hx, hb, hml, hown, hg⟩ (c_O_meet l z D ac sa P q2 (wf q2) (wt q2) p1 p2 (fo 2 q2 hq2)) (cx_gv gm_H_55 gi_O_meet gs_O_meet gn_O gc_O_meet) (by decide +kernel) ⟨by decide, by decide⟩ hK hw (fo 2 q2 hq2) rfl rfl hl.1 rfl (Nat.le_of_ble_eq_true rfl) dd_H_hasWorksWithin_34 ⟨by decide, by decide⟩) hw (fun v9 P9 H locs hp hw => ?_)
        obtain ⟨rfl, e9⟩ := hp
        rw [e9] at hw
        clear e9 P9
        refine W.eq (g2 := F0 m 37 ls [.int (if (wt q2) < p1 then 0 else if p2 < (wf q2) then 0 else 1)]) rfl ?_
        refine lv_if_eq (tgt := 42) hx hb dd_H_hasWorksWithin_37 (by decide) (fun c5 => ?_) (fun c5 => ?_)
        · skip
          refine lv_iinc (v := (3)) (lv' := [(5, .int (3 : Int32)), (6, .ref q2), (4, .int (3 : Int32)), (3, .ref aw), (0, .ref h0), (1, .int p1), (2, .int p2)]) hx hb dd_H_hasWorksWithin_42 hl (k := 1) rfl (by decide) (by decide) rfl (fun ls hl => ?_)
          refine lv_goto (tgt := 12) hx hb dd_H_hasWorksWithin_45 (by decide) ?_
          refine lv_iload hx hb dd_H_hasWorksWithin_12 (lv_at hl 0 rfl) ?_
          refine lv_iload hx hb dd_H_hasWorksWithin_14 (lv_at hl 2 rfl) ?_
          refine lv_icmp_ge (tgt := 48) hx hb dd_H_hasWorksWithin_16 (by decide) (fun c6 => ?_) (fun c6 => absurd (by decide) c6)
          refine lv_iconst (v := 0) hx hb dd_H_hasWorksWithin_48 (by decide) ?_
          refine cx_iret (v := (0 : Int32)) hx hb hr (by decide) hlocks hw dd_H_hasWorksWithin_49 (by decide) (by decide) ?_
          have d2 : su_m1 wf wt p1 p2 (fw 2) = 0 := by rw [hq2]; exact c5
          exact ⟨by rw [su_m3, if_pos d0, if_pos d1, if_pos d2], rfl⟩
        · skip
          refine lv_iconst (v := 1) hx hb dd_H_hasWorksWithin_40 (by decide) ?_
          refine cx_iret (v := (1 : Int32)) hx hb hr (by decide) hlocks hw dd_H_hasWorksWithin_41 (by decide) (by decide) ?_
          have d2 : ¬ su_m1 wf wt p1 p2 (fw 2) = 0 := by rw [hq2]; exact c5
          exact ⟨by rw [su_m3, if_pos d0, if_pos d1, if_neg d2], rfl⟩
    · skip
      refine W.eq (g2 := F0 m 23 ls [.ref q1]) rfl ?_
      refine lv_astore (lv' := [(6, .ref q1), (5, .int (1 : Int32)), (4, .int (3 : Int32)), (3, .ref aw), (0, .ref h0), (1, .int p1), (2, .int p2)]) hx hb dd_H_hasWorksWithin_23 hl (by decide) rfl (fun ls hl => ?_)
      refine lv_aload hx hb dd_H_hasWorksWithin_25 (lv_at hl 0 rfl) ?_
      refine lv_ifnull hx hb dd_H_hasWorksWithin_27 ?_
      refine lv_aload hx hb dd_H_hasWorksWithin_30 (lv_at hl 0 rfl) ?_
      refine lv_iload_n hx hb dd_H_hasWorksWithin_32 rfl (lv_at hl 5 rfl) ?_
      refine lv_iload_n hx hb dd_H_hasWorksWithin_33 rfl (lv_at hl 6 rfl) ?_
      refine cx_after (cx_rV (n := 2) (As := [.int p1, .int p2]) (rest := []) ⟨hx, hb, hml, hown, hg⟩ (c_O_meet l z D ac sa P q1 (wf q1) (wt q1) p1 p2 (fo 1 q1 hq1)) (cx_gv gm_H_55 gi_O_meet gs_O_meet gn_O gc_O_meet) (by decide +kernel) ⟨by decide, by decide⟩ hK hw (fo 1 q1 hq1) rfl rfl hl.1 rfl (Nat.le_of_ble_eq_true rfl) dd_H_hasWorksWithin_34 ⟨by decide, by decide⟩) hw (fun v9 P9 H locs hp hw => ?_)
      obtain ⟨rfl, e9⟩ := hp
      rw [e9] at hw
      clear e9 P9
      refine W.eq (g2 := F0 m 37 ls [.int (if (wt q1) < p1 then 0 else if p2 < (wf q1) then 0 else 1)]) rfl ?_
      refine lv_if_eq (tgt := 42) hx hb dd_H_hasWorksWithin_37 (by decide) (fun c7 => ?_) (fun c7 => ?_)
      · skip
        refine lv_iinc (v := (2)) (lv' := [(5, .int (2 : Int32)), (6, .ref q1), (4, .int (3 : Int32)), (3, .ref aw), (0, .ref h0), (1, .int p1), (2, .int p2)]) hx hb dd_H_hasWorksWithin_42 hl (k := 1) rfl (by decide) (by decide) rfl (fun ls hl => ?_)
        refine lv_goto (tgt := 12) hx hb dd_H_hasWorksWithin_45 (by decide) ?_
        refine lv_iload hx hb dd_H_hasWorksWithin_12 (lv_at hl 0 rfl) ?_
        refine lv_iload hx hb dd_H_hasWorksWithin_14 (lv_at hl 2 rfl) ?_
        refine lv_icmp_ge (tgt := 48) hx hb dd_H_hasWorksWithin_16 (by decide) (fun c8 => absurd c8 (by decide)) (fun c8 => ?_)
        refine lv_aload_n hx hb dd_H_hasWorksWithin_19 rfl (lv_at hl 3 rfl) ?_
        refine lv_iload hx hb dd_H_hasWorksWithin_20 (lv_at hl 0 rfl) ?_
        refine pm_aald hx hb hK.2.1 hw 5 f1 rfl (show vp_in (2 : Int32) 3 from vp_in_nI (n := 2) (by decide) (by decide)) dd_H_hasWorksWithin_22 ?_
        refine W.eq (g2 := F0 m 23 ls [va_rf (fw 2)]) rfl ?_
        rcases hq2 : fw 2 with _ | q2
        · skip
          refine W.eq (g2 := F0 m 23 ls [.null]) rfl ?_
          have d2 : su_m1 wf wt p1 p2 (fw 2) = 0 := by rw [hq2]; rfl
          refine lv_astoreN (lv' := [(6, .null), (5, .int (2 : Int32)), (4, .int (3 : Int32)), (3, .ref aw), (0, .ref h0), (1, .int p1), (2, .int p2)]) hx hb dd_H_hasWorksWithin_23 hl (by decide) rfl (fun ls hl => ?_)
          refine lv_aloadN hx hb dd_H_hasWorksWithin_25 (lv_at hl 0 rfl) ?_
          refine lv_ifnullN (tgt := 42) hx hb dd_H_hasWorksWithin_27 (by decide) ?_
          refine lv_iinc (v := (3)) (lv' := [(5, .int (3 : Int32)), (6, .null), (4, .int (3 : Int32)), (3, .ref aw), (0, .ref h0), (1, .int p1), (2, .int p2)]) hx hb dd_H_hasWorksWithin_42 hl (k := 1) rfl (by decide) (by decide) rfl (fun ls hl => ?_)
          refine lv_goto (tgt := 12) hx hb dd_H_hasWorksWithin_45 (by decide) ?_
          refine lv_iload hx hb dd_H_hasWorksWithin_12 (lv_at hl 0 rfl) ?_
          refine lv_iload hx hb dd_H_hasWorksWithin_14 (lv_at hl 2 rfl) ?_
          refine lv_icmp_ge (tgt := 48) hx hb dd_H_hasWorksWithin_16 (by decide) (fun c9 => ?_) (fun c9 => absurd (by decide) c9)
          refine lv_iconst (v := 0) hx hb dd_H_hasWorksWithin_48 (by decide) ?_
          refine cx_iret (v := (0 : Int32)) hx hb hr (by decide) hlocks hw dd_H_hasWorksWithin_49 (by decide) (by decide) ?_
          have d1 : su_m1 wf wt p1 p2 (fw 1) = 0 := by rw [hq1]; exact c7
          exact ⟨by rw [su_m3, if_pos d0, if_pos d1, if_pos d2], rfl⟩
        · skip
          refine W.eq (g2 := F0 m 23 ls [.ref q2]) rfl ?_
          refine lv_astore (lv' := [(6, .ref q2), (5, .int (2 : Int32)), (4, .int (3 : Int32)), (3, .ref aw), (0, .ref h0), (1, .int p1), (2, .int p2)]) hx hb dd_H_hasWorksWithin_23 hl (by decide) rfl (fun ls hl => ?_)
          refine lv_aload hx hb dd_H_hasWorksWithin_25 (lv_at hl 0 rfl) ?_
          refine lv_ifnull hx hb dd_H_hasWorksWithin_27 ?_
          refine lv_aload hx hb dd_H_hasWorksWithin_30 (lv_at hl 0 rfl) ?_
          refine lv_iload_n hx hb dd_H_hasWorksWithin_32 rfl (lv_at hl 5 rfl) ?_
          refine lv_iload_n hx hb dd_H_hasWorksWithin_33 rfl (lv_at hl 6 rfl) ?_
          refine cx_after (cx_rV (n := 2) (As := [.int p1, .int p2]) (rest := []) ⟨hx, hb, hml, hown, hg⟩ (c_O_meet l z D ac sa P q2 (wf q2) (wt q2) p1 p2 (fo 2 q2 hq2)) (cx_gv gm_H_55 gi_O_meet gs_O_meet gn_O gc_O_meet) (by decide +kernel) ⟨by decide, by decide⟩ hK hw (fo 2 q2 hq2) rfl rfl hl.1 rfl (Nat.le_of_ble_eq_true rfl) dd_H_hasWorksWithin_34 ⟨by decide, by decide⟩) hw (fun v9 P9 H locs hp hw => ?_)
          obtain ⟨rfl, e9⟩ := hp
          rw [e9] at hw
          clear e9 P9
          refine W.eq (g2 := F0 m 37 ls [.int (if (wt q2) < p1 then 0 else if p2 < (wf q2) then 0 else 1)]) rfl ?_
          refine lv_if_eq (tgt := 42) hx hb dd_H_hasWorksWithin_37 (by decide) (fun c10 => ?_) (fun c10 => ?_)
          · skip
            refine lv_iinc (v := (3)) (lv' := [(5, .int (3 : Int32)), (6, .ref q2), (4, .int (3 : Int32)), (3, .ref aw), (0, .ref h0), (1, .int p1), (2, .int p2)]) hx hb dd_H_hasWorksWithin_42 hl (k := 1) rfl (by decide) (by decide) rfl (fun ls hl => ?_)
            refine lv_goto (tgt := 12) hx hb dd_H_hasWorksWithin_45 (by decide) ?_
            refine lv_iload hx hb dd_H_hasWorksWithin_12 (lv_at hl 0 rfl) ?_
            refine lv_iload hx hb dd_H_hasWorksWithin_14 (lv_at hl 2 rfl) ?_
            refine lv_icmp_ge (tgt := 48) hx hb dd_H_hasWorksWithin_16 (by decide) (fun c11 => ?_) (fun c11 => absurd (by decide) c11)
            refine lv_iconst (v := 0) hx hb dd_H_hasWorksWithin_48 (by decide) ?_
            refine cx_iret (v := (0 : Int32)) hx hb hr (by decide) hlocks hw dd_H_hasWorksWithin_49 (by decide) (by decide) ?_
            have d1 : su_m1 wf wt p1 p2 (fw 1) = 0 := by rw [hq1]; exact c7
            have d2 : su_m1 wf wt p1 p2 (fw 2) = 0 := by rw [hq2]; exact c10
            exact ⟨by rw [su_m3, if_pos d0, if_pos d1, if_pos d2], rfl⟩
          · skip
            refine lv_iconst (v := 1) hx hb dd_H_hasWorksWithin_40 (by decide) ?_
            refine cx_iret (v := (1 : Int32)) hx hb hr (by decide) hlocks hw dd_H_hasWorksWithin_41 (by decide) (by decide) ?_
            have d1 : su_m1 wf wt p1 p2 (fw 1) = 0 := by rw [hq1]; exact c7
            have d2 : ¬ su_m1 wf wt p1 p2 (fw 2) = 0 := by rw [hq2]; exact c10
            exact ⟨by rw [su_m3, if_pos d0, if_pos d1, if_neg d2], rfl⟩
      · skip
        refine lv_iconst (v := 1) hx hb dd_H_hasWorksWithin_40 (by decide) ?_
        refine cx_iret (v := (1 : Int32)) hx hb hr (by decide) hlocks hw dd_H_hasWorksWithin_41 (by decide) (by decide) ?_
        have d1 : ¬ su_m1 wf wt p1 p2 (fw 1) = 0 := by rw [hq1]; exact c7
        exact ⟨by rw [su_m3, if_pos d0, if_neg d1], rfl⟩
  · skip
    refine W.eq (g2 := F0 m 23 ls [.ref q0]) rfl ?_
    refine lv_astore (lv' := [(6, .ref q0), (5, .int (0 : Int32)), (4, .int (3 : Int32)), (3, .ref aw), (0, .ref h0), (1, .int p1), (2, .int p2)]) hx hb dd_H_hasWorksWithin_23 hl (by decide) rfl (fun ls hl => ?_)
    refine lv_aload hx hb dd_H_hasWorksWithin_25 (lv_at hl 0 rfl) ?_
    refine lv_ifnull hx hb dd_H_hasWorksWithin_27 ?_
    refine lv_aload hx hb dd_H_hasWorksWithin_30 (lv_at hl 0 rfl) ?_
    refine lv_iload_n hx hb dd_H_hasWorksWithin_32 rfl (lv_at hl 5 rfl) ?_
    refine lv_iload_n hx hb dd_H_hasWorksWithin_33 rfl (lv_at hl 6 rfl) ?_
    refine cx_after (cx_rV (n := 2) (As := [.int p1, .int p2]) (rest := []) ⟨hx, hb, hml, hown, hg⟩ (c_O_meet l z D ac sa P q0 (wf q0) (wt q0) p1 p2 (fo 0 q0 hq0)) (cx_gv gm_H_55 gi_O_meet gs_O_meet gn_O gc_O_meet) (by decide +kernel) ⟨by decide, by decide⟩ hK hw (fo 0 q0 hq0) rfl rfl hl.1 rfl (Nat.le_of_ble_eq_true rfl) dd_H_hasWorksWithin_34 ⟨by decide, by decide⟩) hw (fun v9 P9 H locs hp hw => ?_)
    obtain ⟨rfl, e9⟩ := hp
    rw [e9] at hw
    clear e9 P9
    refine W.eq (g2 := F0 m 37 ls [.int (if (wt q0) < p1 then 0 else if p2 < (wf q0) then 0 else 1)]) rfl ?_
    refine lv_if_eq (tgt := 42) hx hb dd_H_hasWorksWithin_37 (by decide) (fun c12 => ?_) (fun c12 => ?_)
    · skip
      refine lv_iinc (v := (1)) (lv' := [(5, .int (1 : Int32)), (6, .ref q0), (4, .int (3 : Int32)), (3, .ref aw), (0, .ref h0), (1, .int p1), (2, .int p2)]) hx hb dd_H_hasWorksWithin_42 hl (k := 1) rfl (by decide) (by decide) rfl (fun ls hl => ?_)
      refine lv_goto (tgt := 12) hx hb dd_H_hasWorksWithin_45 (by decide) ?_
      refine lv_iload hx hb dd_H_hasWorksWithin_12 (lv_at hl 0 rfl) ?_
      refine lv_iload hx hb dd_H_hasWorksWithin_14 (lv_at hl 2 rfl) ?_
      refine lv_icmp_ge (tgt := 48) hx hb dd_H_hasWorksWithin_16 (by decide) (fun c13 => absurd c13 (by decide)) (fun c13 => ?_)
      refine lv_aload_n hx hb dd_H_hasWorksWithin_19 rfl (lv_at hl 3 rfl) ?_
      refine lv_iload hx hb dd_H_hasWorksWithin_20 (lv_at hl 0 rfl) ?_
      refine pm_aald hx hb hK.2.1 hw 5 f1 rfl (show vp_in (1 : Int32) 3 from vp_in_nI (n := 1) (by decide) (by decide)) dd_H_hasWorksWithin_22 ?_
      refine W.eq (g2 := F0 m 23 ls [va_rf (fw 1)]) rfl ?_
      rcases hq1 : fw 1 with _ | q1
      · skip
        refine W.eq (g2 := F0 m 23 ls [.null]) rfl ?_
        have d1 : su_m1 wf wt p1 p2 (fw 1) = 0 := by rw [hq1]; rfl
        refine lv_astoreN (lv' := [(6, .null), (5, .int (1 : Int32)), (4, .int (3 : Int32)), (3, .ref aw), (0, .ref h0), (1, .int p1), (2, .int p2)]) hx hb dd_H_hasWorksWithin_23 hl (by decide) rfl (fun ls hl => ?_)
        refine lv_aloadN hx hb dd_H_hasWorksWithin_25 (lv_at hl 0 rfl) ?_
        refine lv_ifnullN (tgt := 42) hx hb dd_H_hasWorksWithin_27 (by decide) ?_
        refine lv_iinc (v := (2)) (lv' := [(5, .int (2 : Int32)), (6, .null), (4, .int (3 : Int32)), (3, .ref aw), (0, .ref h0), (1, .int p1), (2, .int p2)]) hx hb dd_H_hasWorksWithin_42 hl (k := 1) rfl (by decide) (by decide) rfl (fun ls hl => ?_)
        refine lv_goto (tgt := 12) hx hb dd_H_hasWorksWithin_45 (by decide) ?_
        refine lv_iload hx hb dd_H_hasWorksWithin_12 (lv_at hl 0 rfl) ?_
        refine lv_iload hx hb dd_H_hasWorksWithin_14 (lv_at hl 2 rfl) ?_
        refine lv_icmp_ge (tgt := 48) hx hb dd_H_hasWorksWithin_16 (by decide) (fun c14 => absurd c14 (by decide)) (fun c14 => ?_)
        refine lv_aload_n hx hb dd_H_hasWorksWithin_19 rfl (lv_at hl 3 rfl) ?_
        refine lv_iload hx hb dd_H_hasWorksWithin_20 (lv_at hl 0 rfl) ?_
        refine pm_aald hx hb hK.2.1 hw 5 f1 rfl (show vp_in (2 : Int32) 3 from vp_in_nI (n := 2) (by decide) (by decide)) dd_H_hasWorksWithin_22 ?_
        refine W.eq (g2 := F0 m 23 ls [va_rf (fw 2)]) rfl ?_
        rcases hq2 : fw 2 with _ | q2
        · skip
          refine W.eq (g2 := F0 m 23 ls [.null]) rfl ?_
          have d2 : su_m1 wf wt p1 p2 (fw 2) = 0 := by rw [hq2]; rfl
          refine lv_astoreN (lv' := [(6, .null), (5, .int (2 : Int32)), (4, .int (3 : Int32)), (3, .ref aw), (0, .ref h0), (1, .int p1), (2, .int p2)]) hx hb dd_H_hasWorksWithin_23 hl (by decide) rfl (fun ls hl => ?_)
          refine lv_aloadN hx hb dd_H_hasWorksWithin_25 (lv_at hl 0 rfl) ?_
          refine lv_ifnullN (tgt := 42) hx hb dd_H_hasWorksWithin_27 (by decide) ?_
          refine lv_iinc (v := (3)) (lv' := [(5, .int (3 : Int32)), (6, .null), (4, .int (3 : Int32)), (3, .ref aw), (0, .ref h0), (1, .int p1), (2, .int p2)]) hx hb dd_H_hasWorksWithin_42 hl (k := 1) rfl (by decide) (by decide) rfl (fun ls hl => ?_)
          refine lv_goto (tgt := 12) hx hb dd_H_hasWorksWithin_45 (by decide) ?_
          refine lv_iload hx hb dd_H_hasWorksWithin_12 (lv_at hl 0 rfl) ?_
          refine lv_iload hx hb dd_H_hasWorksWithin_14 (lv_at hl 2 rfl) ?_
          refine lv_icmp_ge (tgt := 48) hx hb dd_H_hasWorksWithin_16 (by decide) (fun c15 => ?_) (fun c15 => absurd (by decide) c15)
          refine lv_iconst (v := 0) hx hb dd_H_hasWorksWithin_48 (by decide) ?_
          refine cx_iret (v := (0 : Int32)) hx hb hr (by decide) hlocks hw dd_H_hasWorksWithin_49 (by decide) (by decide) ?_
          have d0 : su_m1 wf wt p1 p2 (fw 0) = 0 := by rw [hq0]; exact c12
          exact ⟨by rw [su_m3, if_pos d0, if_pos d1, if_pos d2], rfl⟩
        · skip
          refine W.eq (g2 := F0 m 23 ls [.ref q2]) rfl ?_
          refine lv_astore (lv' := [(6, .ref q2), (5, .int (2 : Int32)), (4, .int (3 : Int32)), (3, .ref aw), (0, .ref h0), (1, .int p1), (2, .int p2)]) hx hb dd_H_hasWorksWithin_23 hl (by decide) rfl (fun ls hl => ?_)
          refine lv_aload hx hb dd_H_hasWorksWithin_25 (lv_at hl 0 rfl) ?_
          refine lv_ifnull hx hb dd_H_hasWorksWithin_27 ?_
          refine lv_aload hx hb dd_H_hasWorksWithin_30 (lv_at hl 0 rfl) ?_
          refine lv_iload_n hx hb dd_H_hasWorksWithin_32 rfl (lv_at hl 5 rfl) ?_
          refine lv_iload_n hx hb dd_H_hasWorksWithin_33 rfl (lv_at hl 6 rfl) ?_
          refine cx_after (cx_rV (n := 2) (As := [.int p1, .int p2]) (rest := []) ⟨hx, hb, hml, hown, hg⟩ (c_O_meet l z D ac sa P q2 (wf q2) (wt q2) p1 p2 (fo 2 q2 hq2)) (cx_gv gm_H_55 gi_O_meet gs_O_meet gn_O gc_O_meet) (by decide +kernel) ⟨by decide, by decide⟩ hK hw (fo 2 q2 hq2) rfl rfl hl.1 rfl (Nat.le_of_ble_eq_true rfl) dd_H_hasWorksWithin_34 ⟨by decide, by decide⟩) hw (fun v9 P9 H locs hp hw => ?_)
          obtain ⟨rfl, e9⟩ := hp
          rw [e9] at hw
          clear e9 P9
          refine W.eq (g2 := F0 m 37 ls [.int (if (wt q2) < p1 then 0 else if p2 < (wf q2) then 0 else 1)]) rfl ?_
          refine lv_if_eq (tgt := 42) hx hb dd_H_hasWorksWithin_37 (by decide) (fun c16 => ?_) (fun c16 => ?_)
          · skip
            refine lv_iinc (v := (3)) (lv' := [(5, .int (3 : Int32)), (6, .ref q2), (4, .int (3 : Int32)), (3, .ref aw), (0, .ref h0), (1, .int p1), (2, .int p2)]) hx hb dd_H_hasWorksWithin_42 hl (k := 1) rfl (by decide) (by decide) rfl (fun ls hl => ?_)
            refine lv_goto (tgt := 12) hx hb dd_H_hasWorksWithin_45 (by decide) ?_
            refine lv_iload hx hb dd_H_hasWorksWithin_12 (lv_at hl 0 rfl) ?_
            refine lv_iload hx hb dd_H_hasWorksWithin_14 (lv_at hl 2 rfl) ?_
            refine lv_icmp_ge (tgt := 48) hx hb dd_H_hasWorksWithin_16 (by decide) (fun c17 => ?_) (fun c17 => absurd (by decide) c17)
            refine lv_iconst (v := 0) hx hb dd_H_hasWorksWithin_48 (by decide) ?_
            refine cx_iret (v := (0 : Int32)) hx hb hr (by decide) hlocks hw dd_H_hasWorksWithin_49 (by decide) (by decide) ?_
            have d0 : su_m1 wf wt p1 p2 (fw 0) = 0 := by rw [hq0]; exact c12
            have d2 : su_m1 wf wt p1 p2 (fw 2) = 0 := by rw [hq2]; exact c16
            exact ⟨by rw [su_m3, if_pos d0, if_pos d1, if_pos d2], rfl⟩
          · skip
            refine lv_iconst (v := 1) hx hb dd_H_hasWorksWithin_40 (by decide) ?_
            refine cx_iret (v := (1 : Int32)) hx hb hr (by decide) hlocks hw dd_H_hasWorksWithin_41 (by decide) (by decide) ?_
            have d0 : su_m1 wf wt p1 p2 (fw 0) = 0 := by rw [hq0]; exact c12
            have d2 : ¬ su_m1 wf wt p1 p2 (fw 2) = 0 := by rw [hq2]; exact c16
            exact ⟨by rw [su_m3, if_pos d0, if_pos d1, if_neg d2], rfl⟩
      · skip
        refine W.eq (g2 := F0 m 23 ls [.ref q1]) rfl ?_
        refine lv_astore (lv' := [(6, .ref q1), (5, .int (1 : Int32)), (4, .int (3 : Int32)), (3, .ref aw), (0, .ref h0), (1, .int p1), (2, .int p2)]) hx hb dd_H_hasWorksWithin_23 hl (by decide) rfl (fun ls hl => ?_)
        refine lv_aload hx hb dd_H_hasWorksWithin_25 (lv_at hl 0 rfl) ?_
        refine lv_ifnull hx hb dd_H_hasWorksWithin_27 ?_
        refine lv_aload hx hb dd_H_hasWorksWithin_30 (lv_at hl 0 rfl) ?_
        refine lv_iload_n hx hb dd_H_hasWorksWithin_32 rfl (lv_at hl 5 rfl) ?_
        refine lv_iload_n hx hb dd_H_hasWorksWithin_33 rfl (lv_at hl 6 rfl) ?_
        refine cx_after (cx_rV (n := 2) (As := [.int p1, .int p2]) (rest := []) ⟨hx, hb, hml, hown, hg⟩ (c_O_meet l z D ac sa P q1 (wf q1) (wt q1) p1 p2 (fo 1 q1 hq1)) (cx_gv gm_H_55 gi_O_meet gs_O_meet gn_O gc_O_meet) (by decide +kernel) ⟨by decide, by decide⟩ hK hw (fo 1 q1 hq1) rfl rfl hl.1 rfl (Nat.le_of_ble_eq_true rfl) dd_H_hasWorksWithin_34 ⟨by decide, by decide⟩) hw (fun v9 P9 H locs hp hw => ?_)
        obtain ⟨rfl, e9⟩ := hp
        rw [e9] at hw
        clear e9 P9
        refine W.eq (g2 := F0 m 37 ls [.int (if (wt q1) < p1 then 0 else if p2 < (wf q1) then 0 else 1)]) rfl ?_
        refine lv_if_eq (tgt := 42) hx hb dd_H_hasWorksWithin_37 (by decide) (fun c18 => ?_) (fun c18 => ?_)
        · skip
          refine lv_iinc (v := (2)) (lv' := [(5, .int (2 : Int32)), (6, .ref q1), (4, .int (3 : Int32)), (3, .ref aw), (0, .ref h0), (1, .int p1), (2, .int p2)]) hx hb dd_H_hasWorksWithin_42 hl (k := 1) rfl (by decide) (by decide) rfl (fun ls hl => ?_)
          refine lv_goto (tgt := 12) hx hb dd_H_hasWorksWithin_45 (by decide) ?_
          refine lv_iload hx hb dd_H_hasWorksWithin_12 (lv_at hl 0 rfl) ?_
          refine lv_iload hx hb dd_H_hasWorksWithin_14 (lv_at hl 2 rfl) ?_
          refine lv_icmp_ge (tgt := 48) hx hb dd_H_hasWorksWithin_16 (by decide) (fun c19 => absurd c19 (by decide)) (fun c19 => ?_)
          refine lv_aload_n hx hb dd_H_hasWorksWithin_19 rfl (lv_at hl 3 rfl) ?_
          refine lv_iload hx hb dd_H_hasWorksWithin_20 (lv_at hl 0 rfl) ?_
          refine pm_aald hx hb hK.2.1 hw 5 f1 rfl (show vp_in (2 : Int32) 3 from vp_in_nI (n := 2) (by decide) (by decide)) dd_H_hasWorksWithin_22 ?_
          refine W.eq (g2 := F0 m 23 ls [va_rf (fw 2)]) rfl ?_
          rcases hq2 : fw 2 with _ | q2
          · skip
            refine W.eq (g2 := F0 m 23 ls [.null]) rfl ?_
            have d2 : su_m1 wf wt p1 p2 (fw 2) = 0 := by rw [hq2]; rfl
            refine lv_astoreN (lv' := [(6, .null), (5, .int (2 : Int32)), (4, .int (3 : Int32)), (3, .ref aw), (0, .ref h0), (1, .int p1), (2, .int p2)]) hx hb dd_H_hasWorksWithin_23 hl (by decide) rfl (fun ls hl => ?_)
            refine lv_aloadN hx hb dd_H_hasWorksWithin_25 (lv_at hl 0 rfl) ?_
            refine lv_ifnullN (tgt := 42) hx hb dd_H_hasWorksWithin_27 (by decide) ?_
            refine lv_iinc (v := (3)) (lv' := [(5, .int (3 : Int32)), (6, .null), (4, .int (3 : Int32)), (3, .ref aw), (0, .ref h0), (1, .int p1), (2, .int p2)]) hx hb dd_H_hasWorksWithin_42 hl (k := 1) rfl (by decide) (by decide) rfl (fun ls hl => ?_)
            refine lv_goto (tgt := 12) hx hb dd_H_hasWorksWithin_45 (by decide) ?_
            refine lv_iload hx hb dd_H_hasWorksWithin_12 (lv_at hl 0 rfl) ?_
            refine lv_iload hx hb dd_H_hasWorksWithin_14 (lv_at hl 2 rfl) ?_
            refine lv_icmp_ge (tgt := 48) hx hb dd_H_hasWorksWithin_16 (by decide) (fun c20 => ?_) (fun c20 => absurd (by decide) c20)
            refine lv_iconst (v := 0) hx hb dd_H_hasWorksWithin_48 (by decide) ?_
            refine cx_iret (v := (0 : Int32)) hx hb hr (by decide) hlocks hw dd_H_hasWorksWithin_49 (by decide) (by decide) ?_
            have d0 : su_m1 wf wt p1 p2 (fw 0) = 0 := by rw [hq0]; exact c12
            have d1 : su_m1 wf wt p1 p2 (fw 1) = 0 := by rw [hq1]; exact c18
            exact ⟨by rw [su_m3, if_pos d0, if_pos d1, if_pos d2], rfl⟩
          · skip
            refine W.eq (g2 := F0 m 23 ls [.ref q2]) rfl ?_
            refine lv_astore (lv' := [(6, .ref q2), (5, .int (2 : Int32)), (4, .int (3 : Int32)), (3, .ref aw), (0, .ref h0), (1, .int p1), (2, .int p2)]) hx hb dd_H_hasWorksWithin_23 hl (by decide) rfl (fun ls hl => ?_)
            refine lv_aload hx hb dd_H_hasWorksWithin_25 (lv_at hl 0 rfl) ?_
            refine lv_ifnull hx hb dd_H_hasWorksWithin_27 ?_
            refine lv_aload hx hb dd_H_hasWorksWithin_30 (lv_at hl 0 rfl) ?_
            refine lv_iload_n hx hb dd_H_hasWorksWithin_32 rfl (lv_at hl 5 rfl) ?_
            refine lv_iload_n hx hb dd_H_hasWorksWithin_33 rfl (lv_at hl 6 rfl) ?_
            refine cx_after (cx_rV (n := 2) (As := [.int p1, .int p2]) (rest := []) ⟨hx, hb, hml, hown, hg⟩ (c_O_meet l z D ac sa P q2 (wf q2) (wt q2) p1 p2 (fo 2 q2 hq2)) (cx_gv gm_H_55 gi_O_meet gs_O_meet gn_O gc_O_meet) (by decide +kernel) ⟨by decide, by decide⟩ hK hw (fo 2 q2 hq2) rfl rfl hl.1 rfl (Nat.le_of_ble_eq_true rfl) dd_H_hasWorksWithin_34 ⟨by decide, by decide⟩) hw (fun v9 P9 H locs hp hw => ?_)
            obtain ⟨rfl, e9⟩ := hp
            rw [e9] at hw
            clear e9 P9
            refine W.eq (g2 := F0 m 37 ls [.int (if (wt q2) < p1 then 0 else if p2 < (wf q2) then 0 else 1)]) rfl ?_
            refine lv_if_eq (tgt := 42) hx hb dd_H_hasWorksWithin_37 (by decide) (fun c21 => ?_) (fun c21 => ?_)
            · skip
              refine lv_iinc (v := (3)) (lv' := [(5, .int (3 : Int32)), (6, .ref q2), (4, .int (3 : Int32)), (3, .ref aw), (0, .ref h0), (1, .int p1), (2, .int p2)]) hx hb dd_H_hasWorksWithin_42 hl (k := 1) rfl (by decide) (by decide) rfl (fun ls hl => ?_)
              refine lv_goto (tgt := 12) hx hb dd_H_hasWorksWithin_45 (by decide) ?_
              refine lv_iload hx hb dd_H_hasWorksWithin_12 (lv_at hl 0 rfl) ?_
              refine lv_iload hx hb dd_H_hasWorksWithin_14 (lv_at hl 2 rfl) ?_
              refine lv_icmp_ge (tgt := 48) hx hb dd_H_hasWorksWithin_16 (by decide) (fun c22 => ?_) (fun c22 => absurd (by decide) c22)
              refine lv_iconst (v := 0) hx hb dd_H_hasWorksWithin_48 (by decide) ?_
              refine cx_iret (v := (0 : Int32)) hx hb hr (by decide) hlocks hw dd_H_hasWorksWithin_49 (by decide) (by decide) ?_
              have d0 : su_m1 wf wt p1 p2 (fw 0) = 0 := by rw [hq0]; exact c12
              have d1 : su_m1 wf wt p1 p2 (fw 1) = 0 := by rw [hq1]; exact c18
              have d2 : su_m1 wf wt p1 p2 (fw 2) = 0 := by rw [hq2]; exact c21
              exact ⟨by rw [su_m3, if_pos d0, if_pos d1, if_pos d2], rfl⟩
            · skip
              refine lv_iconst (v := 1) hx hb dd_H_hasWorksWithin_40 (by decide) ?_
              refine cx_iret (v := (1 : Int32)) hx hb hr (by decide) hlocks hw dd_H_hasWorksWithin_41 (by decide) (by decide) ?_
              have d0 : su_m1 wf wt p1 p2 (fw 0) = 0 := by rw [hq0]; exact c12
              have d1 : su_m1 wf wt p1 p2 (fw 1) = 0 := by rw [hq1]; exact c18
              have d2 : ¬ su_m1 wf wt p1 p2 (fw 2) = 0 := by rw [hq2]; exact c21
              exact ⟨by rw [su_m3, if_pos d0, if_pos d1, if_neg d2], rfl⟩
        · skip
          refine lv_iconst (v := 1) hx hb dd_H_hasWorksWithin_40 (by decide) ?_
          refine cx_iret (v := (1 : Int32)) hx hb hr (by decide) hlocks hw dd_H_hasWorksWithin_41 (by decide) (by decide) ?_
          have d0 : su_m1 wf wt p1 p2 (fw 0) = 0 := by rw [hq0]; exact c12
          have d1 : ¬ su_m1 wf wt p1 p2 (fw 1) = 0 := by rw [hq1]; exact c18
          exact ⟨by rw [su_m3, if_pos d0, if_neg d1], rfl⟩
    · skip
      refine lv_iconst (v := 1) hx hb dd_H_hasWorksWithin_40 (by decide) ?_
      refine cx_iret (v := (1 : Int32)) hx hb hr (by decide) hlocks hw dd_H_hasWorksWithin_41 (by decide) (by decide) ?_
      have d0 : ¬ su_m1 wf wt p1 p2 (fw 0) = 0 := by rw [hq0]; exact c12
      exact ⟨by rw [su_m3, if_neg d0], rfl⟩

set_option maxHeartbeats 4000000 in
set_option maxRecDepth 100000 in
theorem c_H_isUsable (l : Launch) (z : Nat) (D : va_G) (ac : Nat → ClassId) (sa : Nat → Nat) (P : pm_T) (h0 aw : Nat) (vn vx vy vm vk vc vd vr vt : Int32) (ct : Option Nat) (wf wt : Nat → Int32) (fw : Nat → Option Nat) (p1 p2 : Int32) (fo : ∀ k q, fw k = some q → P q = some (.inr (3, [.int (wf q), .int (wt q)]))) (f0 : P h0 = some (.inr (1, [.int vn, .int vx, .int vy, .int vm, .int vk, .ref aw, .int vc, .int vd, .int vr, .int vt, va_rf ct]))) (f1 : P aw = some (.inl (ac 5, 3, .inr (.inr (.inr (.inr fw)))))) : cx_M l yy_H_isUsable bb_H_isUsable 3 (some .boolean) ({ frames := 2, cells := 0, slots := 0, locals := 48 } : Room) z D ac sa P [.ref h0, .int p1, .int p2] (fun v P' => v = some (.int (su_us vd vk vr p2 p1 wf wt fw)) ∧ P' = P) := by
  refine cx_ofM (by decide) (Nat.le_of_ble_eq_true rfl) (fun p e s m below meth c ls hx hb hr hml hg hown hlocks hin hK hw hl => ?_)
  have hl : lv_has ls 3 [(0, .ref h0), (1, .int p1), (2, .int p2)] := hl
  have hown : s.vm.findClass cn_H = some m.cls := hown
  refine lv_aload_n hx hb dd_H_isUsable_0 rfl (lv_at hl 0 rfl) ?_
  refine pm_get (ci := 1) (C := cn_H) (T := cf_H) (N := 11) (v := .int vd) hx hb hg gu_H hown hK.2.1 hw f0 rfl 7 (by decide) (hg _ gf_H_21) (fun _ h9 => h9) rfl dd_H_isUsable_1 ?_
  refine lv_iconst (v := 2) hx hb dd_H_isUsable_4 (by decide) ?_
  refine lv_icmp_eq (tgt := 41) hx hb dd_H_isUsable_5 (by decide) (fun c1 => ?_) (fun c1 => ?_)
  · skip
    refine lv_iconst (v := 0) hx hb dd_H_isUsable_41 (by decide) ?_
    refine cx_iret (v := (0 : Int32)) hx hb hr (by decide) hlocks hw dd_H_isUsable_42 (by decide) (by decide) ?_
    refine ⟨congrArg (fun x => some (Value.int x)) (show (0 : Int32) = su_us vd vk vr p2 p1 wf wt fw from ?_), rfl⟩
    rw [su_us, if_pos c1]
  · skip
    refine lv_aload_n hx hb dd_H_isUsable_8 rfl (lv_at hl 0 rfl) ?_
    refine pm_get (ci := 1) (C := cn_H) (T := cf_H) (N := 11) (v := .int vk) hx hb hg gu_H hown hK.2.1 hw f0 rfl 4 (by decide) (hg _ gf_H_46) (fun _ h9 => h9) rfl dd_H_isUsable_9 ?_
    refine lv_iconst (v := 1) hx hb dd_H_isUsable_12 (by decide) ?_
    refine lv_icmp_ne (tgt := 20) hx hb dd_H_isUsable_13 (by decide) (fun c2 => ?_) (fun c2 => ?_)
    · skip
      refine lv_aload_n hx hb dd_H_isUsable_20 rfl (lv_at hl 0 rfl) ?_
      refine lv_iload_n hx hb dd_H_isUsable_21 rfl (lv_at hl 1 rfl) ?_
      refine cx_after (cx_rV (n := 1) (As := [.int p1]) (rest := []) ⟨hx, hb, hml, hown, hg⟩ (c_H_isDry l z D ac sa P h0 aw vn vx vy vm vk vc vd vr vt ct p1 f0) (cx_gv gm_H_62 gi_H_isDry gs_H_isDry gn_H gc_H_isDry) (by decide +kernel) ⟨by decide, by decide⟩ hK hw f0 rfl rfl hl.1 rfl (Nat.le_of_ble_eq_true rfl) dd_H_isUsable_22 ⟨by decide, by decide⟩) hw (fun v9 P9 H locs hp hw => ?_)
      obtain ⟨rfl, e9⟩ := hp
      rw [e9] at hw
      clear e9 P9
      refine W.eq (g2 := F0 m 25 ls [.int (su_dry vr p1)]) rfl ?_
      refine lv_if_ne (tgt := 41) hx hb dd_H_isUsable_25 (by decide) (fun c3 => ?_) (fun c3 => ?_)
      · skip
        refine lv_iconst (v := 0) hx hb dd_H_isUsable_41 (by decide) ?_
        refine cx_iret (v := (0 : Int32)) hx hb hr (by decide) hlocks hw dd_H_isUsable_42 (by decide) (by decide) ?_
        refine ⟨congrArg (fun x => some (Value.int x)) (show (0 : Int32) = su_us vd vk vr p2 p1 wf wt fw from ?_), rfl⟩
        have k1 : ¬ (vk = 1 ∧ p2 = 0) := fun h => c2 h.1
        rw [su_us, if_neg c1, if_neg k1, if_neg c3]
      · skip
        refine lv_aload_n hx hb dd_H_isUsable_28 rfl (lv_at hl 0 rfl) ?_
        refine lv_iload_n hx hb dd_H_isUsable_29 rfl (lv_at hl 1 rfl) ?_
        refine lv_iload_n hx hb dd_H_isUsable_30 rfl (lv_at hl 1 rfl) ?_
        refine cx_after (cx_rV (n := 2) (As := [.int p1, .int p1]) (rest := []) ⟨hx, hb, hml, hown, hg⟩ (c_H_hasWorksWithin l z D ac sa P h0 aw vn vx vy vm vk vc vd vr vt ct  wf wt fw p1 p1 fo f0 f1) (cx_gv gm_H_66 gi_H_hasWorksWithin gs_H_hasWorksWithin gn_H gc_H_hasWorksWithin) (by decide +kernel) ⟨by decide, by decide⟩ hK hw f0 rfl rfl hl.1 rfl (Nat.le_of_ble_eq_true rfl) dd_H_isUsable_31 ⟨by decide, by decide⟩) hw (fun v9 P9 H locs hp hw => ?_)
        obtain ⟨rfl, e9⟩ := hp
        rw [e9] at hw
        clear e9 P9
        refine W.eq (g2 := F0 m 34 ls [.int (su_m3 wf wt p1 p1 fw)]) rfl ?_
        refine lv_if_ne (tgt := 41) hx hb dd_H_isUsable_34 (by decide) (fun c4 => ?_) (fun c4 => ?_)
        · skip
          refine lv_iconst (v := 0) hx hb dd_H_isUsable_41 (by decide) ?_
          refine cx_iret (v := (0 : Int32)) hx hb hr (by decide) hlocks hw dd_H_isUsable_42 (by decide) (by decide) ?_
          refine ⟨congrArg (fun x => some (Value.int x)) (show (0 : Int32) = su_us vd vk vr p2 p1 wf wt fw from ?_), rfl⟩
          have k1 : ¬ (vk = 1 ∧ p2 = 0) := fun h => c2 h.1
          rw [su_us, if_neg c1, if_neg k1, if_pos c3, if_neg c4]
        · skip
          refine lv_iconst (v := 1) hx hb dd_H_isUsable_37 (by decide) ?_
          refine lv_goto (tgt := 42) hx hb dd_H_isUsable_38 (by decide) ?_
          refine cx_iret (v := (1 : Int32)) hx hb hr (by decide) hlocks hw dd_H_isUsable_42 (by decide) (by decide) ?_
          refine ⟨congrArg (fun x => some (Value.int x)) (show (1 : Int32) = su_us vd vk vr p2 p1 wf wt fw from ?_), rfl⟩
          have k1 : ¬ (vk = 1 ∧ p2 = 0) := fun h => c2 h.1
          rw [su_us, if_neg c1, if_neg k1, if_pos c3, if_pos c4]
    · skip
      refine lv_iload_n hx hb dd_H_isUsable_16 rfl (lv_at hl 2 rfl) ?_
      refine lv_if_eq (tgt := 41) hx hb dd_H_isUsable_17 (by decide) (fun c5 => ?_) (fun c5 => ?_)
      · skip
        refine lv_iconst (v := 0) hx hb dd_H_isUsable_41 (by decide) ?_
        refine cx_iret (v := (0 : Int32)) hx hb hr (by decide) hlocks hw dd_H_isUsable_42 (by decide) (by decide) ?_
        refine ⟨congrArg (fun x => some (Value.int x)) (show (0 : Int32) = su_us vd vk vr p2 p1 wf wt fw from ?_), rfl⟩
        have k1 : vk = 1 ∧ p2 = 0 := ⟨c2, c5⟩
        rw [su_us, if_neg c1, if_pos k1]
      · skip
        refine lv_aload_n hx hb dd_H_isUsable_20 rfl (lv_at hl 0 rfl) ?_
        refine lv_iload_n hx hb dd_H_isUsable_21 rfl (lv_at hl 1 rfl) ?_
        refine cx_after (cx_rV (n := 1) (As := [.int p1]) (rest := []) ⟨hx, hb, hml, hown, hg⟩ (c_H_isDry l z D ac sa P h0 aw vn vx vy vm vk vc vd vr vt ct p1 f0) (cx_gv gm_H_62 gi_H_isDry gs_H_isDry gn_H gc_H_isDry) (by decide +kernel) ⟨by decide, by decide⟩ hK hw f0 rfl rfl hl.1 rfl (Nat.le_of_ble_eq_true rfl) dd_H_isUsable_22 ⟨by decide, by decide⟩) hw (fun v9 P9 H locs hp hw => ?_)
        obtain ⟨rfl, e9⟩ := hp
        rw [e9] at hw
        clear e9 P9
        refine W.eq (g2 := F0 m 25 ls [.int (su_dry vr p1)]) rfl ?_
        refine lv_if_ne (tgt := 41) hx hb dd_H_isUsable_25 (by decide) (fun c6 => ?_) (fun c6 => ?_)
        · skip
          refine lv_iconst (v := 0) hx hb dd_H_isUsable_41 (by decide) ?_
          refine cx_iret (v := (0 : Int32)) hx hb hr (by decide) hlocks hw dd_H_isUsable_42 (by decide) (by decide) ?_
          refine ⟨congrArg (fun x => some (Value.int x)) (show (0 : Int32) = su_us vd vk vr p2 p1 wf wt fw from ?_), rfl⟩
          have k1 : ¬ (vk = 1 ∧ p2 = 0) := fun h => c5 h.2
          rw [su_us, if_neg c1, if_neg k1, if_neg c6]
        · skip
          refine lv_aload_n hx hb dd_H_isUsable_28 rfl (lv_at hl 0 rfl) ?_
          refine lv_iload_n hx hb dd_H_isUsable_29 rfl (lv_at hl 1 rfl) ?_
          refine lv_iload_n hx hb dd_H_isUsable_30 rfl (lv_at hl 1 rfl) ?_
          refine cx_after (cx_rV (n := 2) (As := [.int p1, .int p1]) (rest := []) ⟨hx, hb, hml, hown, hg⟩ (c_H_hasWorksWithin l z D ac sa P h0 aw vn vx vy vm vk vc vd vr vt ct  wf wt fw p1 p1 fo f0 f1) (cx_gv gm_H_66 gi_H_hasWorksWithin gs_H_hasWorksWithin gn_H gc_H_hasWorksWithin) (by decide +kernel) ⟨by decide, by decide⟩ hK hw f0 rfl rfl hl.1 rfl (Nat.le_of_ble_eq_true rfl) dd_H_isUsable_31 ⟨by decide, by decide⟩) hw (fun v9 P9 H locs hp hw => ?_)
          obtain ⟨rfl, e9⟩ := hp
          rw [e9] at hw
          clear e9 P9
          refine W.eq (g2 := F0 m 34 ls [.int (su_m3 wf wt p1 p1 fw)]) rfl ?_
          refine lv_if_ne (tgt := 41) hx hb dd_H_isUsable_34 (by decide) (fun c7 => ?_) (fun c7 => ?_)
          · skip
            refine lv_iconst (v := 0) hx hb dd_H_isUsable_41 (by decide) ?_
            refine cx_iret (v := (0 : Int32)) hx hb hr (by decide) hlocks hw dd_H_isUsable_42 (by decide) (by decide) ?_
            refine ⟨congrArg (fun x => some (Value.int x)) (show (0 : Int32) = su_us vd vk vr p2 p1 wf wt fw from ?_), rfl⟩
            have k1 : ¬ (vk = 1 ∧ p2 = 0) := fun h => c5 h.2
            rw [su_us, if_neg c1, if_neg k1, if_pos c6, if_neg c7]
          · skip
            refine lv_iconst (v := 1) hx hb dd_H_isUsable_37 (by decide) ?_
            refine lv_goto (tgt := 42) hx hb dd_H_isUsable_38 (by decide) ?_
            refine cx_iret (v := (1 : Int32)) hx hb hr (by decide) hlocks hw dd_H_isUsable_42 (by decide) (by decide) ?_
            refine ⟨congrArg (fun x => some (Value.int x)) (show (1 : Int32) = su_us vd vk vr p2 p1 wf wt fw from ?_), rfl⟩
            have k1 : ¬ (vk = 1 ∧ p2 = 0) := fun h => c5 h.2
            rw [su_us, if_neg c1, if_neg k1, if_pos c6, if_pos c7]
end
section
/-- what of the hydrants' cells the reads need -/
def hy_W (P : pm_T) (ac : Nat → ClassId) (fH : Nat → Option Nat) (hv tv ov : Nat → Nat → Int32) (aw : Nat → Nat) (ct : Nat → Option Nat) (fw : Nat → Nat → Option Nat) : Prop := ∀ k q, fH k = some q → P q = some (.inr (1, [.int (hv 0 q), .int (hv 1 q), .int (hv 2 q), .int (hv 3 q), .int (hv 4 q), .ref (aw q), .int (hv 6 q), .int (hv 7 q), .int (hv 8 q), .int (hv 9 q), va_rf (ct q)])) ∧ P (aw q) = some (.inl (ac 5, 3, .inr (.inr (.inr (.inr (fw q)))))) ∧ (∀ j o, fw q j = some o → P o = some (.inr (3, [.int (ov 0 o), .int (ov 1 o)]))) ∧ (∀ t, ct q = some t → P t = some (.inr (2, [.int (tv 0 t), .int (tv 1 t), .int (tv 2 t), .int (tv 3 t), .int (tv 4 t), .int (tv 5 t)])))
def hy_is (e : va_E) : Bool := match e with
  | .inr (1, _) => true
  | .inr (2, _) => true
  | .inr (3, _) => true
  | .inl (_, 3, _) => true
  | _ => false
theorem hy_W.up {P : pm_T} {ac : Nat → ClassId} {fH : Nat → Option Nat} {hv tv ov : Nat → Nat → Int32} {aw : Nat → Nat} {ct : Nat → Option Nat} {fw : Nat → Nat → Option Nat} (h : hy_W P ac fH hv tv ov aw ct fw) {a : Nat} {x y : va_E} (he : P a = some x) (hx : hy_is x = false) : hy_W (pm_up P a y) ac fH hv tv ov aw ct fw := by
  have hne : ∀ b w, P b = some w → hy_is w = true → b ≠ a := fun b w hb hw e9 => by
    rw [e9, he] at hb
    cases hb
    rw [hx] at hw
    cases hw
  intro k q hk
  obtain ⟨h1, h2, h3, h4⟩ := h k q hk
  refine ⟨by rw [pm_n (hne _ _ h1 rfl)]; exact h1, by rw [pm_n (hne _ _ h2 rfl)]; exact h2, fun j o ho => ?_, fun t ht => ?_⟩
  · rw [pm_n (hne _ _ (h3 j o ho) rfl)]; exact h3 j o ho
  · rw [pm_n (hne _ _ (h4 t ht) rfl)]; exact h4 t ht
def su_sm (fH : Nat → Option Nat) (ok : Nat → Bool) (gv : Nat → Int32) : Nat → Int32
  | 0 => 0
  | k + 1 => match fH k with
    | none => su_sm fH ok gv k
    | some q => if ok q = true then su_sm fH ok gv k + gv q else su_sm fH ok gv k
/-- a hydrant gives to a main's supply -/
def su_ok (hv ov : Nat → Nat → Int32) (fw : Nat → Nat → Option Nat) (al mn x y d hose : Int32) (q : Nat) : Bool := decide (hv 3 q = mn) && (!decide (hose < su_hose (hv 1 q) (hv 2 q) x y) && !decide (su_us (hv 7 q) (hv 4 q) (hv 8 q) al d (ov 0) (ov 1) (fw q) = 0))

set_option maxHeartbeats 4000000 in
set_option maxRecDepth 100000 in
theorem c_C_supplyOfMain (l : Launch) (z : Nat) (D : va_G) (ac : Nat → ClassId) (sa : Nat → Nat) (P : pm_T) (h0 aH aT aL aK aW : Nat) (nh nt al : Int32) (fH : Nat → Option Nat) (hv tv ov : Nat → Nat → Int32) (aw : Nat → Nat) (ct : Nat → Option Nat) (fw : Nat → Nat → Option Nat) (p1 p2 p3 p4 p5 p6 : Int32) (fy : hy_W P ac fH hv tv ov aw ct fw) (f0 : P h0 = some (.inr (0, [.ref aH, .ref aT, .ref aL, .ref aK, .ref aW, .int nh, .int nt, .int al]))) (f1 : P aH = some (.inl (ac 3, 40, .inr (.inr (.inr (.inr fH)))))) : cx_M l yy_C_supplyOfMain bb_C_supplyOfMain 12 (some .int) ({ frames := 3, cells := 0, slots := 0, locals := 86 } : Room) z D ac sa P [.ref h0, .int p1, .int p2, .int p3, .int p4, .int p5, .int p6] (fun v P' => v = some (.int (su_sm fH (su_ok hv ov fw al p1 p2 p3 p4 p6) (fun q => su_gv (tv 3) (tv 4) (tv 5) (ct q) p5) 40)) ∧ P' = P) := by
  refine cx_ofM (by decide) (Nat.le_of_ble_eq_true rfl) (fun p e s m below meth c ls hx hb hr hml hg hown hlocks hin hK hw hl => ?_)
  have hl : lv_has ls 12 [(0, .ref h0), (1, .int p1), (2, .int p2), (3, .int p3), (4, .int p4), (5, .int p5), (6, .int p6)] := hl
  have hown : s.vm.findClass cn_C = some m.cls := hown
  have lp : ∀ (n k : Nat), k + n = 40 → ∀ (sm : Int32) (H : Heap) (locs : List Loc) (ls : Array Slot), sm = su_sm fH (su_ok hv ov fw al p1 p2 p3 p4 p6) (fun q => su_gv (tv 3) (tv 4) (tv 5) (ct q) p5) k → pm_W z D cl_w P s.heap H locs → lv_has ls 12 [(10, .int (nI k)), (9, .int (40 : Int32)), (8, .ref aH), (7, .int sm), (0, .ref h0), (1, .int p1), (2, .int p2), (3, .int p3), (4, .int p4), (5, .int p5), (6, .int p6)] → W p l e ({ frames := 3, cells := 0, slots := 0, locals := 86 } : Room) s m ([.ref h0, .int p1, .int p2, .int p3, .int p4, .int p5, .int p6] : List Value).toArray below meth c H locs 0 0 (MQ below (cx_Q z D (fun v P' => v = some (.int (su_sm fH (su_ok hv ov fw al p1 p2 p3 p4 p6) (fun q => su_gv (tv 3) (tv 4) (tv 5) (ct q) p5) 40)) ∧ P' = P)) ([.ref h0, .int p1, .int p2, .int p3, .int p4, .int p5, .int p6] : List Value).toArray s ({ frames := 3, cells := 0, slots := 0, locals := 86 } : Room).cells ({ frames := 3, cells := 0, slots := 0, locals := 86 } : Room).slots (pm_A z)) (F0 m 17 ls []) := by
    intro n
    induction n with
    | zero =>
      intro k hk sm H locs ls esm hw hl
      have hk : k = 40 := by omega
      subst hk
      refine lv_iload hx hb dd_C_supplyOfMain_17 (lv_at hl 0 rfl) ?_
      refine lv_iload hx hb dd_C_supplyOfMain_19 (lv_at hl 1 rfl) ?_
      refine lv_icmp_ge (tgt := 89) hx hb dd_C_supplyOfMain_21 (by decide) (fun c1 => ?_) (fun c1 => absurd (nI_le (Nat.le_refl 40) (by decide)) c1)
      refine lv_iload hx hb dd_C_supplyOfMain_89 (lv_at hl 3 rfl) ?_
      refine cx_iret (v := sm) hx hb hr rfl hlocks hw dd_C_supplyOfMain_91 (by decide) (by decide) ?_
      exact ⟨by rw [esm], rfl⟩
    | succ n ih =>
      intro k hk sm H locs ls esm hw hl
      have hlt : k < 40 := by omega
      have hcl : (nI k).toNatClampNeg = k := nI_clamp (by omega)
      refine lv_iload hx hb dd_C_supplyOfMain_17 (lv_at hl 0 rfl) ?_
      refine lv_iload hx hb dd_C_supplyOfMain_19 (lv_at hl 1 rfl) ?_
      refine lv_icmp_ge (tgt := 89) hx hb dd_C_supplyOfMain_21 (by decide) (fun c2 => absurd c2 (nI_ge hlt (by decide))) (fun c2 => ?_)
      refine lv_aload hx hb dd_C_supplyOfMain_24 (lv_at hl 2 rfl) ?_
      refine lv_iload hx hb dd_C_supplyOfMain_26 (lv_at hl 0 rfl) ?_
      refine pm_aald hx hb hK.2.1 hw 3 f1 rfl (vp_in_nI hlt (by decide)) dd_C_supplyOfMain_28 ?_
      refine W.eq (g2 := F0 m 29 ls [va_rf (fH k)]) (by rw [hcl]) ?_
      rcases hq : fH k with _ | q
      · skip
        refine W.eq (g2 := F0 m 29 ls [.null]) rfl ?_
        refine lv_astoreN (lv' := [(11, .null), (10, .int (nI k)), (9, .int (40 : Int32)), (8, .ref aH), (7, .int sm), (0, .ref h0), (1, .int p1), (2, .int p2), (3, .int p3), (4, .int p4), (5, .int p5), (6, .int p6)]) hx hb dd_C_supplyOfMain_29 hl (by decide) rfl (fun ls hl => ?_)
        refine lv_aloadN hx hb dd_C_supplyOfMain_31 (lv_at hl 0 rfl) ?_
        refine lv_ifnullN (tgt := 83) hx hb dd_C_supplyOfMain_33 (by decide) ?_
        obtain ⟨x3, ex3⟩ : ∃ y : Int32, y = (nI k) + 1 := ⟨_, rfl⟩
        refine lv_iinc (v := x3) (lv' := [(10, .int x3), (11, .null), (9, .int (40 : Int32)), (8, .ref aH), (7, .int sm), (0, .ref h0), (1, .int p1), (2, .int p2), (3, .int p3), (4, .int p4), (5, .int p5), (6, .int p6)]) hx hb dd_C_supplyOfMain_83 hl (k := 1) rfl (by rw [ex3]; rfl) (by decide) rfl (fun ls hl => ?_)
        refine lv_goto (tgt := 17) hx hb dd_C_supplyOfMain_86 (by decide) ?_
        have hi : x3 = nI (k + 1) := by rw [ex3]; exact nI_1 k
        rw [hi] at hl
        refine ih (k + 1) (by omega) sm H _ ls ?_ hw (lv_sub hl [0, 2, 3, 4, 5, 6, 7, 8, 9, 10, 11] rfl)
        rw [esm]; simp only [su_sm, hq]
      · skip
        refine W.eq (g2 := F0 m 29 ls [.ref q]) rfl ?_
        obtain ⟨fq, fqw, fo, ft⟩ := fy k q hq
        refine lv_astore (lv' := [(11, .ref q), (10, .int (nI k)), (9, .int (40 : Int32)), (8, .ref aH), (7, .int sm), (0, .ref h0), (1, .int p1), (2, .int p2), (3, .int p3), (4, .int p4), (5, .int p5), (6, .int p6)]) hx hb dd_C_supplyOfMain_29 hl (by decide) rfl (fun ls hl => ?_)
        refine lv_aload hx hb dd_C_supplyOfMain_31 (lv_at hl 0 rfl) ?_
        refine lv_ifnull hx hb dd_C_supplyOfMain_33 ?_
        refine lv_aload hx hb dd_C_supplyOfMain_36 (lv_at hl 0 rfl) ?_
        refine pm_get (ci := 1) (C := cn_H) (T := cf_H) (N := 11) (v := .int (hv 3 q)) hx hb hg gu_H hown hK.2.1 hw fq rfl 3 (by decide) (hg _ gf_C_188) (fun _ h9 => h9) rfl dd_C_supplyOfMain_38 ?_
        refine lv_iload_n hx hb dd_C_supplyOfMain_41 rfl (lv_at hl 6 rfl) ?_
        refine lv_icmp_ne (tgt := 83) hx hb dd_C_supplyOfMain_42 (by decide) (fun c4 => ?_) (fun c4 => ?_)
        · skip
          obtain ⟨x5, ex5⟩ : ∃ y : Int32, y = (nI k) + 1 := ⟨_, rfl⟩
          refine lv_iinc (v := x5) (lv' := [(10, .int x5), (11, .ref q), (9, .int (40 : Int32)), (8, .ref aH), (7, .int sm), (0, .ref h0), (1, .int p1), (2, .int p2), (3, .int p3), (4, .int p4), (5, .int p5), (6, .int p6)]) hx hb dd_C_supplyOfMain_83 hl (k := 1) rfl (by rw [ex5]; rfl) (by decide) rfl (fun ls hl => ?_)
          refine lv_goto (tgt := 17) hx hb dd_C_supplyOfMain_86 (by decide) ?_
          have hi : x5 = nI (k + 1) := by rw [ex5]; exact nI_1 k
          rw [hi] at hl
          refine ih (k + 1) (by omega) sm H _ ls ?_ hw (lv_sub hl [0, 2, 3, 4, 5, 6, 7, 8, 9, 10, 11] rfl)
          have hok : su_ok hv ov fw al p1 p2 p3 p4 p6 q = false := by simp only [su_ok]; simp [c4]
          rw [esm]; simp only [su_sm, hq, hok]; simp
        · skip
          refine lv_aload hx hb dd_C_supplyOfMain_45 (lv_at hl 0 rfl) ?_
          refine lv_iload_n hx hb dd_C_supplyOfMain_47 rfl (lv_at hl 7 rfl) ?_
          refine lv_iload_n hx hb dd_C_supplyOfMain_48 rfl (lv_at hl 8 rfl) ?_
          refine cx_after (cx_rV (n := 2) (As := [.int p2, .int p3]) (rest := []) ⟨hx, hb, hml, hown, hg⟩ (c_H_hoseFrom l z D ac sa P q (aw q) (hv 0 q) (hv 1 q) (hv 2 q) (hv 3 q) (hv 4 q) (hv 6 q) (hv 7 q) (hv 8 q) (hv 9 q) (ct q) p2 p3 fq) (cx_gv gm_C_174 gi_H_hoseFrom gs_H_hoseFrom gn_H gc_H_hoseFrom) (by decide +kernel) ⟨by decide, by decide⟩ hK hw fq rfl rfl hl.1 rfl (Nat.le_of_ble_eq_true rfl) dd_C_supplyOfMain_49 ⟨by decide, by decide⟩) hw (fun v9 P9 H locs hp hw => ?_)
          obtain ⟨rfl, e9⟩ := hp
          rw [e9] at hw
          clear e9 P9
          refine W.eq (g2 := F0 m 52 ls [.int (su_hose (hv 1 q) (hv 2 q) p2 p3)]) rfl ?_
          refine lv_iload hx hb dd_C_supplyOfMain_52 (lv_at hl 11 rfl) ?_
          refine lv_icmp_gt (tgt := 83) hx hb dd_C_supplyOfMain_54 (by decide) (fun c6 => ?_) (fun c6 => ?_)
          · skip
            obtain ⟨x7, ex7⟩ : ∃ y : Int32, y = (nI k) + 1 := ⟨_, rfl⟩
            refine lv_iinc (v := x7) (lv' := [(10, .int x7), (11, .ref q), (9, .int (40 : Int32)), (8, .ref aH), (7, .int sm), (0, .ref h0), (1, .int p1), (2, .int p2), (3, .int p3), (4, .int p4), (5, .int p5), (6, .int p6)]) hx hb dd_C_supplyOfMain_83 hl (k := 1) rfl (by rw [ex7]; rfl) (by decide) rfl (fun ls hl => ?_)
            refine lv_goto (tgt := 17) hx hb dd_C_supplyOfMain_86 (by decide) ?_
            have hi : x7 = nI (k + 1) := by rw [ex7]; exact nI_1 k
            rw [hi] at hl
            refine ih (k + 1) (by omega) sm H _ ls ?_ hw (lv_sub hl [0, 2, 3, 4, 5, 6, 7, 8, 9, 10, 11] rfl)
            have hok : su_ok hv ov fw al p1 p2 p3 p4 p6 q = false := by simp only [su_ok]; simp [c4, c6]
            rw [esm]; simp only [su_sm, hq, hok]; simp
          · skip
            refine lv_aload hx hb dd_C_supplyOfMain_57 (lv_at hl 0 rfl) ?_
            refine lv_iload hx hb dd_C_supplyOfMain_59 (lv_at hl 9 rfl) ?_
            refine lv_aload_n hx hb dd_C_supplyOfMain_61 rfl (lv_at hl 5 rfl) ?_
            refine pm_get (ci := 0) (C := cn_C) (T := cf_C) (N := 8) (v := .int al) hx hb hg gu_C hown hK.2.1 hw f0 rfl 7 (by decide) (hg _ gf_C_46) (fun _ h9 => h9) rfl dd_C_supplyOfMain_62 ?_
            refine cx_after (cx_rV (n := 2) (As := [.int p4, .int al]) (rest := []) ⟨hx, hb, hml, hown, hg⟩ (c_H_isUsable l z D ac sa P q (aw q) (hv 0 q) (hv 1 q) (hv 2 q) (hv 3 q) (hv 4 q) (hv 6 q) (hv 7 q) (hv 8 q) (hv 9 q) (ct q)  (ov 0) (ov 1) (fw q) p4 al fo fq fqw) (cx_gv gm_C_164 gi_H_isUsable gs_H_isUsable gn_H gc_H_isUsable) (by decide +kernel) ⟨by decide, by decide⟩ hK hw fq rfl rfl hl.1 rfl (Nat.le_of_ble_eq_true rfl) dd_C_supplyOfMain_65 ⟨by decide, by decide⟩) hw (fun v9 P9 H locs hp hw => ?_)
            obtain ⟨rfl, e9⟩ := hp
            rw [e9] at hw
            clear e9 P9
            refine W.eq (g2 := F0 m 68 ls [.int (su_us (hv 7 q) (hv 4 q) (hv 8 q) al p4 (ov 0) (ov 1) (fw q))]) rfl ?_
            refine lv_if_eq (tgt := 83) hx hb dd_C_supplyOfMain_68 (by decide) (fun c8 => ?_) (fun c8 => ?_)
            · skip
              obtain ⟨x9, ex9⟩ : ∃ y : Int32, y = (nI k) + 1 := ⟨_, rfl⟩
              refine lv_iinc (v := x9) (lv' := [(10, .int x9), (11, .ref q), (9, .int (40 : Int32)), (8, .ref aH), (7, .int sm), (0, .ref h0), (1, .int p1), (2, .int p2), (3, .int p3), (4, .int p4), (5, .int p5), (6, .int p6)]) hx hb dd_C_supplyOfMain_83 hl (k := 1) rfl (by rw [ex9]; rfl) (by decide) rfl (fun ls hl => ?_)
              refine lv_goto (tgt := 17) hx hb dd_C_supplyOfMain_86 (by decide) ?_
              have hi : x9 = nI (k + 1) := by rw [ex9]; exact nI_1 k
              rw [hi] at hl
              refine ih (k + 1) (by omega) sm H _ ls ?_ hw (lv_sub hl [0, 2, 3, 4, 5, 6, 7, 8, 9, 10, 11] rfl)
              have hok : su_ok hv ov fw al p1 p2 p3 p4 p6 q = false := by simp only [su_ok]; simp [c4, c6, c8]
              rw [esm]; simp only [su_sm, hq, hok]; simp
            · skip
              refine lv_iload hx hb dd_C_supplyOfMain_71 (lv_at hl 4 rfl) ?_
              refine lv_aload hx hb dd_C_supplyOfMain_73 (lv_at hl 0 rfl) ?_
              refine lv_iload hx hb dd_C_supplyOfMain_75 (lv_at hl 10 rfl) ?_
              refine cx_after (cx_rV (n := 1) (As := [.int p5]) (rest := [.int sm]) ⟨hx, hb, hml, hown, hg⟩ (c_H_givenAt l z D ac sa P q (aw q) (hv 0 q) (hv 1 q) (hv 2 q) (hv 3 q) (hv 4 q) (hv 6 q) (hv 7 q) (hv 8 q) (hv 9 q) (ct q) (tv 0) (tv 1) (tv 2) (tv 3) (tv 4) (tv 5) p5 ft fq) (cx_gv gm_C_287 gi_H_givenAt gs_H_givenAt gn_H gc_H_givenAt) (by decide +kernel) ⟨by decide, by decide⟩ hK hw fq rfl rfl hl.1 rfl (Nat.le_of_ble_eq_true rfl) dd_C_supplyOfMain_77 ⟨by decide, by decide⟩) hw (fun v9 P9 H locs hp hw => ?_)
              obtain ⟨rfl, e9⟩ := hp
              rw [e9] at hw
              clear e9 P9
              refine W.eq (g2 := F0 m 80 ls [.int (su_gv (tv 3) (tv 4) (tv 5) (ct q) p5), .int sm]) rfl ?_
              refine lv_iadd hx hb dd_C_supplyOfMain_80 ?_
              refine lv_topi (fun x10 ex10 => ?_)
              refine lv_istore (lv' := [(7, .int x10), (11, .ref q), (10, .int (nI k)), (9, .int (40 : Int32)), (8, .ref aH), (0, .ref h0), (1, .int p1), (2, .int p2), (3, .int p3), (4, .int p4), (5, .int p5), (6, .int p6)]) hx hb dd_C_supplyOfMain_81 hl (by decide) rfl (fun ls hl => ?_)
              obtain ⟨x11, ex11⟩ : ∃ y : Int32, y = (nI k) + 1 := ⟨_, rfl⟩
              refine lv_iinc (v := x11) (lv' := [(10, .int x11), (7, .int x10), (11, .ref q), (9, .int (40 : Int32)), (8, .ref aH), (0, .ref h0), (1, .int p1), (2, .int p2), (3, .int p3), (4, .int p4), (5, .int p5), (6, .int p6)]) hx hb dd_C_supplyOfMain_83 hl (k := 2) rfl (by rw [ex11]; rfl) (by decide) rfl (fun ls hl => ?_)
              refine lv_goto (tgt := 17) hx hb dd_C_supplyOfMain_86 (by decide) ?_
              have hi : x11 = nI (k + 1) := by rw [ex11]; exact nI_1 k
              rw [hi] at hl
              refine ih (k + 1) (by omega) x10 H _ ls ?_ hw (lv_sub hl [0, 3, 4, 1, 5, 6, 7, 8, 9, 10, 11] rfl)
              have hok : su_ok hv ov fw al p1 p2 p3 p4 p6 q = true := by simp only [su_ok]; simp [c4, c6, c8]
              rw [ex10, esm]; simp only [su_sm, hq, hok]; simp
  refine lv_iconst (v := 0) hx hb dd_C_supplyOfMain_0 (by decide) ?_
  refine lv_istore (lv' := [(7, .int (0 : Int32)), (0, .ref h0), (1, .int p1), (2, .int p2), (3, .int p3), (4, .int p4), (5, .int p5), (6, .int p6)]) hx hb dd_C_supplyOfMain_1 hl (by decide) rfl (fun ls hl => ?_)
  refine lv_aload_n hx hb dd_C_supplyOfMain_3 rfl (lv_at hl 1 rfl) ?_
  refine pm_get (ci := 0) (C := cn_C) (T := cf_C) (N := 8) (v := .ref aH) hx hb hg gu_C hown hK.2.1 hw f0 rfl 0 (by decide) (hg _ gf_C_11) (fun _ h9 => h9) rfl dd_C_supplyOfMain_4 ?_
  refine lv_astore (lv' := [(8, .ref aH), (7, .int (0 : Int32)), (0, .ref h0), (1, .int p1), (2, .int p2), (3, .int p3), (4, .int p4), (5, .int p5), (6, .int p6)]) hx hb dd_C_supplyOfMain_7 hl (by decide) rfl (fun ls hl => ?_)
  refine lv_aload hx hb dd_C_supplyOfMain_9 (lv_at hl 0 rfl) ?_
  refine pm_alen (v := 40) hx hb hK.2.1 hw 3 f1 rfl rfl dd_C_supplyOfMain_11 ?_
  refine lv_istore (lv' := [(9, .int (40 : Int32)), (8, .ref aH), (7, .int (0 : Int32)), (0, .ref h0), (1, .int p1), (2, .int p2), (3, .int p3), (4, .int p4), (5, .int p5), (6, .int p6)]) hx hb dd_C_supplyOfMain_12 hl (by decide) rfl (fun ls hl => ?_)
  refine lv_iconst (v := 0) hx hb dd_C_supplyOfMain_14 (by decide) ?_
  refine lv_istore (lv' := [(10, .int (0 : Int32)), (9, .int (40 : Int32)), (8, .ref aH), (7, .int (0 : Int32)), (0, .ref h0), (1, .int p1), (2, .int p2), (3, .int p3), (4, .int p4), (5, .int p5), (6, .int p6)]) hx hb dd_C_supplyOfMain_15 hl (by decide) rfl (fun ls hl => ?_)
  exact lp 40 0 (by decide) 0 _ _ ls rfl hw (lv_sub hl [0, 1, 2, 3, 4, 5, 6, 7, 8, 9, 10] rfl)
end
section
/-! keys in a row -/
def su_insl (k : Int32) : List Int32 → List Int32
  | [] => [k]
  | x :: xs => if x ≤ k then x :: su_insl k xs else k :: x :: xs
def su_nk (fH : Nat → Option Nat) (us ky : Nat → Int32) : Nat → List Int32
  | 0 => []
  | k + 1 => match fH k with
    | none => su_nk fH us ky k
    | some q => if us q = 0 then su_nk fH us ky k else su_insl (ky q) (su_nk fH us ky k)
def su_row (kf : Nat → Int32) (L : List Int32) : Prop := ∀ j, j < L.length → kf j = L.getD j 0
def su_num (kf : Nat → Int32) (ks p : Int32) : Int32 := if p < 0 then -1 else if ks ≤ p then -1 else if (40 : Int32) ≤ p then -1 else kf p.toNatClampNeg - kf p.toNatClampNeg / 40 * 40
theorem su_insl_len (k : Int32) : ∀ L : List Int32, (su_insl k L).length = L.length + 1
  | [] => rfl
  | x :: xs => by
    show (if x ≤ k then x :: su_insl k xs else k :: x :: xs).length = _
    by_cases h : x ≤ k
    · rw [if_pos h, List.length_cons, su_insl_len k xs, List.length_cons]
    · rw [if_neg h, List.length_cons, List.length_cons]
theorem su_nk_len (fH : Nat → Option Nat) (us ky : Nat → Int32) : ∀ k, (su_nk fH us ky k).length ≤ k
  | 0 => Nat.le_refl 0
  | k + 1 => by
    have ih := su_nk_len fH us ky k
    rcases hq : fH k with _ | q
    · simp only [su_nk, hq]; omega
    · simp only [su_nk, hq]
      by_cases h : us q = 0
      · rw [if_pos h]; omega
      · rw [if_neg h, su_insl_len]; omega
theorem su_insl_mem {k y : Int32} : ∀ {L : List Int32}, y ∈ su_insl k L ↔ y = k ∨ y ∈ L
  | [] => by simp [su_insl]
  | x :: xs => by
    simp only [su_insl]
    by_cases h : x ≤ k
    · rw [if_pos h, List.mem_cons, su_insl_mem, List.mem_cons]
      constructor
      · rintro (h | h | h)
        · exact Or.inr (Or.inl h)
        · exact Or.inl h
        · exact Or.inr (Or.inr h)
      · rintro (h | h | h)
        · exact Or.inr (Or.inl h)
        · exact Or.inl h
        · exact Or.inr (Or.inr h)
    · rw [if_neg h, List.mem_cons]
theorem su_insl_sorted (k : Int32) : ∀ {L : List Int32}, L.Pairwise (· ≤ ·) → (su_insl k L).Pairwise (· ≤ ·)
  | [], _ => List.pairwise_singleton _ _
  | x :: xs, h => by
    obtain ⟨h1, h2⟩ := List.pairwise_cons.mp h
    simp only [su_insl]
    by_cases hx : x ≤ k
    · rw [if_pos hx]
      refine List.pairwise_cons.mpr ⟨fun y hy => ?_, su_insl_sorted k h2⟩
      rcases su_insl_mem.mp hy with g | g
      · rw [g]; exact hx
      · exact h1 y g
    · rw [if_neg hx]
      have hk : k ≤ x := Int32.le_of_lt (Int32.not_le.mp hx)
      refine List.pairwise_cons.mpr ⟨fun y hy => ?_, h⟩
      rcases List.mem_cons.mp hy with g | g
      · rw [g]; exact hk
      · exact Int32.le_trans hk (h1 y g)
theorem su_nk_sorted (fH : Nat → Option Nat) (us ky : Nat → Int32) : ∀ k, (su_nk fH us ky k).Pairwise (· ≤ ·)
  | 0 => List.Pairwise.nil
  | k + 1 => by
    have ih := su_nk_sorted fH us ky k
    rcases hq : fH k with _ | q
    · simp only [su_nk, hq]; exact ih
    · simp only [su_nk, hq]
      by_cases h : us q = 0
      · rw [if_pos h]; exact ih
      · rw [if_neg h]; exact su_insl_sorted _ ih
theorem su_insl_eq : ∀ (L : List Int32) (a : Nat) (ky : Int32), a ≤ L.length → (∀ j, j < a → L.getD j 0 ≤ ky) → (∀ j, a ≤ j → j < L.length → ky < L.getD j 0) → su_insl ky L = L.take a ++ ky :: L.drop a
  | [], a, ky, ha, _, _ => by
    have h : a = 0 := Nat.le_zero.mp ha
    subst h
    rfl
  | x :: xs, 0, ky, _, _, h2 => by
    have h : ky < x := h2 0 (Nat.le_refl 0) (Nat.succ_pos _)
    simp only [su_insl]
    rw [if_neg (Int32.not_le.mpr h)]
    rfl
  | x :: xs, a + 1, ky, ha, h1, h2 => by
    have h : x ≤ ky := h1 0 (Nat.succ_pos a)
    simp only [su_insl]
    rw [if_pos h, su_insl_eq xs a ky (Nat.le_of_succ_le_succ ha) (fun j hj => h1 (j + 1) (Nat.succ_lt_succ hj)) (fun j hj hl => h2 (j + 1) (Nat.succ_le_succ hj) (Nat.succ_lt_succ hl))]
    rfl
theorem su_ins_row {kf kg : Nat → Int32} {n a : Nat} {ky : Int32} {L : List Int32} (hL : L.length = n) (h : su_ins kf kg n a ky) (hr : su_row kf L) (hs : L.Pairwise (· ≤ ·)) : su_row kg (su_insl ky L) := by
  obtain ⟨ha, h1, h2, h3, h4, h5⟩ := h
  subst hL
  have hb : ∀ j, j < a → L.getD j 0 ≤ ky := by
    intro j hj
    rcases h5 with h5 | h5
    · omega
    · rw [hr (a - 1) (by omega)] at h5
      rcases Nat.lt_or_ge j (a - 1) with h6 | h6
      · refine Int32.le_trans ?_ h5
        have h7 := List.pairwise_iff_getElem.mp hs j (a - 1) (by omega) (by omega) h6
        rw [← List.getElem_eq_getD (h := by omega) 0, ← List.getElem_eq_getD (h := by omega) 0]
        exact h7
      · have h7 : j = a - 1 := by omega
        rw [h7]; exact h5
  have hc : ∀ j, a ≤ j → j < L.length → ky < L.getD j 0 := fun j g1 g2 => by rw [← hr j g2]; exact h4 j g1 g2
  rw [su_insl_eq L a ky ha hb hc]
  intro j hj
  have hlen : (L.take a ++ ky :: L.drop a).length = L.length + 1 := by
    rw [List.length_append, List.length_cons, List.length_take, List.length_drop]
    omega
  have htk : (L.take a).length = a := by rw [List.length_take]; omega
  rw [hlen] at hj
  rw [List.getD_eq_getElem?_getD]
  rcases Nat.lt_trichotomy j a with g | g | g
  · rw [h1 j g, hr j (by omega), List.getElem?_append_left (by omega), List.getElem?_take_of_lt g, List.getD_eq_getElem?_getD]
  · subst g
    rw [h2, List.getElem?_append_right (by omega), htk, Nat.sub_self]
    rfl
  · obtain ⟨i, rfl⟩ : ∃ i, j = i + 1 := ⟨j - 1, by omega⟩
    rw [h3 i (by omega) (by omega), hr i (by omega), List.getElem?_append_right (by omega), htk, show i + 1 - a = (i - a) + 1 by omega, List.getElem?_cons_succ, List.getElem?_drop, show a + (i - a) = i by omega, List.getD_eq_getElem?_getD]
end
section
def su_hs (d : Int32) : Prop := ¬ d < 0 ∧ d ≤ 200000
def su_ds (d : Int32) : Prop := ¬ d < 0 ∧ d ≤ 9999
def su_all (lm : Nat → Int32) (sm : Nat → Int32) : Nat → Int32
  | 0 => 0
  | k + 1 => su_all lm sm k + (if lm k < sm k then lm k else sm k)

set_option maxHeartbeats 4000000 in
set_option maxRecDepth 100000 in
theorem c_C_near (l : Launch) (hT : l.stackTraces = false) (z : Nat) (D : va_G) (ac : Nat → ClassId) (sa : Nat → Nat) (P : pm_T) (h0 aH aT aL aK aW : Nat) (nh nt al : Int32) (ak : Nat) (ks : Int32) (kf : Nat → Int32) (fH : Nat → Option Nat) (hv tv ov : Nat → Nat → Int32) (aw : Nat → Nat) (ct : Nat → Option Nat) (fw : Nat → Nat → Option Nat) (p1 p2 p3 p4 : Int32) (fy : hy_W P ac fH hv tv ov aw ct fw) (f0 : P h0 = some (.inr (0, [.ref aH, .ref aT, .ref aL, .ref aK, .ref aW, .int nh, .int nt, .int al]))) (f1 : P aH = some (.inl (ac 3, 40, .inr (.inr (.inr (.inr fH)))))) (f2 : P aK = some (.inr (4, [.ref ak, .int ks]))) (f3 : P ak = some (.inl (ac 0, 40, .inl kf))) : cx_V l yy_C_near bb_C_near 9 (some .int) ({ frames := 7, cells := 3, slots := 18, locals := 111 } : Room) z D ac sa P [.ref h0, .int p1, .int p2, .int p3, .int p4] (fun v P' => (su_pl p1 p2 ∧ su_day p3 ∧ su_nn p4) ∧ ∃ kg : Nat → Int32, su_row kg (su_nk fH (fun q => su_us (hv 7 q) (hv 4 q) (hv 8 q) al p3 (ov 0) (ov 1) (fw q)) (fun q => su_hose (hv 1 q) (hv 2 q) p1 p2 * 40 + hv 0 q) 40) ∧ v = some (.int (su_num kg (nI (su_nk fH (fun q => su_us (hv 7 q) (hv 4 q) (hv 8 q) al p3 (ov 0) (ov 1) (fw q)) (fun q => su_hose (hv 1 q) (hv 2 q) p1 p2 * 40 + hv 0 q) 40).length) p4)) ∧ P' = pm_up (pm_up P ak (.inl (ac 0, 40, .inl kg))) aK (.inr (4, [.ref ak, .int (nI (su_nk fH (fun q => su_us (hv 7 q) (hv 4 q) (hv 8 q) al p3 (ov 0) (ov 1) (fw q)) (fun q => su_hose (hv 1 q) (hv 2 q) p1 p2 * 40 + hv 0 q) 40).length)]))) (fun E P' => E = xn_IOB ∧ P' = P ∧ ¬ (su_pl p1 p2 ∧ su_day p3 ∧ su_nn p4)) := by
  refine cx_ofV (by decide) (Nat.le_of_ble_eq_true rfl) (fun p e s m below meth c ls hx hb hr hml hg hown hlocks hout hK hw hl => ?_)
  have hl : lv_has ls 9 [(0, .ref h0), (1, .int p1), (2, .int p2), (3, .int p3), (4, .int p4)] := hl
  have hown : s.vm.findClass cn_C = some m.cls := hown
  have lp : (su_pl p1 p2 ∧ su_day p3 ∧ su_nn p4) → ∀ (n k : Nat), k + n = 40 → ∀ (kg : Nat → Int32) (Pk : pm_T) (H : Heap) (locs : List Loc) (ls : Array Slot), Pk = pm_up (pm_up P ak (.inl (ac 0, 40, .inl kg))) aK (.inr (4, [.ref ak, .int (nI (su_nk fH (fun q => su_us (hv 7 q) (hv 4 q) (hv 8 q) al p3 (ov 0) (ov 1) (fw q)) (fun q => su_hose (hv 1 q) (hv 2 q) p1 p2 * 40 + hv 0 q) k).length)])) → su_row kg (su_nk fH (fun q => su_us (hv 7 q) (hv 4 q) (hv 8 q) al p3 (ov 0) (ov 1) (fw q)) (fun q => su_hose (hv 1 q) (hv 2 q) p1 p2 * 40 + hv 0 q) k) → pm_W z D cl_w Pk s.heap H locs → lv_has ls 9 [(7, .int (nI k)), (6, .int (40 : Int32)), (5, .ref aH), (0, .ref h0), (1, .int p1), (2, .int p2), (3, .int p3), (4, .int p4)] → W p l e ({ frames := 7, cells := 3, slots := 18, locals := 111 } : Room) s m ([.ref h0, .int p1, .int p2, .int p3, .int p4] : List Value).toArray below meth c H locs 3 18 (vx_MQ below (cx_Q z D (fun v P' => (su_pl p1 p2 ∧ su_day p3 ∧ su_nn p4) ∧ ∃ kg : Nat → Int32, su_row kg (su_nk fH (fun q => su_us (hv 7 q) (hv 4 q) (hv 8 q) al p3 (ov 0) (ov 1) (fw q)) (fun q => su_hose (hv 1 q) (hv 2 q) p1 p2 * 40 + hv 0 q) 40) ∧ v = some (.int (su_num kg (nI (su_nk fH (fun q => su_us (hv 7 q) (hv 4 q) (hv 8 q) al p3 (ov 0) (ov 1) (fw q)) (fun q => su_hose (hv 1 q) (hv 2 q) p1 p2 * 40 + hv 0 q) 40).length) p4)) ∧ P' = pm_up (pm_up P ak (.inl (ac 0, 40, .inl kg))) aK (.inr (4, [.ref ak, .int (nI (su_nk fH (fun q => su_us (hv 7 q) (hv 4 q) (hv 8 q) al p3 (ov 0) (ov 1) (fw q)) (fun q => su_hose (hv 1 q) (hv 2 q) p1 p2 * 40 + hv 0 q) 40).length)])))) (cx_X z D (fun E P' => E = xn_IOB ∧ P' = P ∧ ¬ (su_pl p1 p2 ∧ su_day p3 ∧ su_nn p4))) ([.ref h0, .int p1, .int p2, .int p3, .int p4] : List Value).toArray s ({ frames := 7, cells := 3, slots := 18, locals := 111 } : Room).cells ({ frames := 7, cells := 3, slots := 18, locals := 111 } : Room).slots (pm_A z)) (F0 m 35 ls []) := by
    intro hpre n
    induction n with
    | zero =>
      intro k hk kg Pk H locs ls ePk hrow hw hl
      have hk : k = 40 := by omega
      subst hk
      have nK : aK ≠ ak := pm_ne f2 f3 (by simp)
      have g0 : Pk h0 = some (.inr (0, [.ref aH, .ref aT, .ref aL, .ref aK, .ref aW, .int nh, .int nt, .int al])) := by rw [ePk, pm_n (pm_ne f0 f2 (by simp)), pm_n (pm_ne f0 f3 (by simp))]; exact f0
      have g1 : Pk aH = some (.inl (ac 3, 40, .inr (.inr (.inr (.inr fH))))) := by rw [ePk, pm_n (pm_ne f1 f2 (by simp)), pm_n (pm_ne f1 f3 (by simp))]; exact f1
      have g2 : Pk aK = some (.inr (4, [.ref ak, .int (nI (su_nk fH (fun q => su_us (hv 7 q) (hv 4 q) (hv 8 q) al p3 (ov 0) (ov 1) (fw q)) (fun q => su_hose (hv 1 q) (hv 2 q) p1 p2 * 40 + hv 0 q) 40).length)])) := by rw [ePk]; exact pm_s
      have g3 : Pk ak = some (.inl (ac 0, 40, .inl kg)) := by rw [ePk, pm_n (Ne.symm nK)]; exact pm_s
      have gy : hy_W Pk ac fH hv tv ov aw ct fw := by rw [ePk]; exact (fy.up f3 rfl).up (x := .inr (4, [.ref ak, .int ks])) (by rw [pm_n nK]; exact f2) rfl
      refine lv_iload hx hb dd_C_near_35 (lv_at hl 0 rfl) ?_
      refine lv_iload hx hb dd_C_near_37 (lv_at hl 1 rfl) ?_
      refine lv_icmp_ge (tgt := 92) hx hb dd_C_near_39 (by decide) (fun c1 => ?_) (fun c1 => absurd (nI_le (Nat.le_refl 40) (by decide)) c1)
      refine lv_aload_n hx hb dd_C_near_92 rfl (lv_at hl 3 rfl) ?_
      refine pm_get (ci := 0) (C := cn_C) (T := cf_C) (N := 8) (v := .ref aK) hx hb hg gu_C hown hK.2.1 hw g0 rfl 3 (by decide) (hg _ gf_C_28) (fun _ h9 => h9) rfl dd_C_near_93 ?_
      refine lv_iload hx hb dd_C_near_96 (lv_at hl 7 rfl) ?_
      refine cx_after (cx_rV (n := 1) (As := [.int p4]) (rest := []) ⟨hx, hb, hml, hown, hg⟩ (c_K_numberAt l z D ac sa Pk aK ak (nI (su_nk fH (fun q => su_us (hv 7 q) (hv 4 q) (hv 8 q) al p3 (ov 0) (ov 1) (fw q)) (fun q => su_hose (hv 1 q) (hv 2 q) p1 p2 * 40 + hv 0 q) 40).length) kg p4 g2 g3) (cx_gv gm_C_183 gi_K_numberAt gs_K_numberAt gn_K gc_K_numberAt) (by decide +kernel) ⟨by decide, by decide⟩ hK hw g2 rfl rfl hl.1 rfl (Nat.le_of_ble_eq_true rfl) dd_C_near_98 ⟨by decide, by decide⟩) hw (fun v9 P9 H locs hp hw => ?_)
      obtain ⟨rfl, e9⟩ := hp
      rw [e9] at hw
      clear e9 P9
      refine W.eq (g2 := F0 m 101 ls [.int (su_num kg (nI (su_nk fH (fun q => su_us (hv 7 q) (hv 4 q) (hv 8 q) al p3 (ov 0) (ov 1) (fw q)) (fun q => su_hose (hv 1 q) (hv 2 q) p1 p2 * 40 + hv 0 q) 40).length) p4)]) rfl ?_
      refine vx_ret (cx_iret (v := (su_num kg (nI (su_nk fH (fun q => su_us (hv 7 q) (hv 4 q) (hv 8 q) al p3 (ov 0) (ov 1) (fw q)) (fun q => su_hose (hv 1 q) (hv 2 q) p1 p2 * 40 + hv 0 q) 40).length) p4)) hx hb hr rfl hlocks hw dd_C_near_101 (by decide) (by decide) ?_)
      exact ⟨hpre, kg, hrow, rfl, ePk⟩
    | succ n ih =>
      intro k hk kg Pk H locs ls ePk hrow hw hl
      have hlt : k < 40 := by omega
      have hcl : (nI k).toNatClampNeg = k := nI_clamp (by omega)
      have nK : aK ≠ ak := pm_ne f2 f3 (by simp)
      have g0 : Pk h0 = some (.inr (0, [.ref aH, .ref aT, .ref aL, .ref aK, .ref aW, .int nh, .int nt, .int al])) := by rw [ePk, pm_n (pm_ne f0 f2 (by simp)), pm_n (pm_ne f0 f3 (by simp))]; exact f0
      have g1 : Pk aH = some (.inl (ac 3, 40, .inr (.inr (.inr (.inr fH))))) := by rw [ePk, pm_n (pm_ne f1 f2 (by simp)), pm_n (pm_ne f1 f3 (by simp))]; exact f1
      have g2 : Pk aK = some (.inr (4, [.ref ak, .int (nI (su_nk fH (fun q => su_us (hv 7 q) (hv 4 q) (hv 8 q) al p3 (ov 0) (ov 1) (fw q)) (fun q => su_hose (hv 1 q) (hv 2 q) p1 p2 * 40 + hv 0 q) k).length)])) := by rw [ePk]; exact pm_s
      have g3 : Pk ak = some (.inl (ac 0, 40, .inl kg)) := by rw [ePk, pm_n (Ne.symm nK)]; exact pm_s
      have gy : hy_W Pk ac fH hv tv ov aw ct fw := by rw [ePk]; exact (fy.up f3 rfl).up (x := .inr (4, [.ref ak, .int ks])) (by rw [pm_n nK]; exact f2) rfl
      refine lv_iload hx hb dd_C_near_35 (lv_at hl 0 rfl) ?_
      refine lv_iload hx hb dd_C_near_37 (lv_at hl 1 rfl) ?_
      refine lv_icmp_ge (tgt := 92) hx hb dd_C_near_39 (by decide) (fun c2 => absurd c2 (nI_ge hlt (by decide))) (fun c2 => ?_)
      refine lv_aload hx hb dd_C_near_42 (lv_at hl 2 rfl) ?_
      refine lv_iload hx hb dd_C_near_44 (lv_at hl 0 rfl) ?_
      refine pm_aald hx hb hK.2.1 hw 3 g1 rfl (vp_in_nI hlt (by decide)) dd_C_near_46 ?_
      refine W.eq (g2 := F0 m 47 ls [va_rf (fH k)]) (by rw [hcl]) ?_
      rcases hq : fH k with _ | q
      · skip
        refine W.eq (g2 := F0 m 47 ls [.null]) rfl ?_
        refine lv_astoreN (lv' := [(8, .null), (7, .int (nI k)), (6, .int (40 : Int32)), (5, .ref aH), (0, .ref h0), (1, .int p1), (2, .int p2), (3, .int p3), (4, .int p4)]) hx hb dd_C_near_47 hl (by decide) rfl (fun ls hl => ?_)
        refine lv_aloadN hx hb dd_C_near_49 (lv_at hl 0 rfl) ?_
        refine lv_ifnullN (tgt := 86) hx hb dd_C_near_51 (by decide) ?_
        obtain ⟨x3, ex3⟩ : ∃ y : Int32, y = (nI k) + 1 := ⟨_, rfl⟩
        refine lv_iinc (v := x3) (lv' := [(7, .int x3), (8, .null), (6, .int (40 : Int32)), (5, .ref aH), (0, .ref h0), (1, .int p1), (2, .int p2), (3, .int p3), (4, .int p4)]) hx hb dd_C_near_86 hl (k := 1) rfl (by rw [ex3]; rfl) (by decide) rfl (fun ls hl => ?_)
        refine lv_goto (tgt := 35) hx hb dd_C_near_89 (by decide) ?_
        have hi : x3 = nI (k + 1) := by rw [ex3]; exact nI_1 k
        rw [hi] at hl
        have hL : su_nk fH (fun q => su_us (hv 7 q) (hv 4 q) (hv 8 q) al p3 (ov 0) (ov 1) (fw q)) (fun q => su_hose (hv 1 q) (hv 2 q) p1 p2 * 40 + hv 0 q) (k + 1) = su_nk fH (fun q => su_us (hv 7 q) (hv 4 q) (hv 8 q) al p3 (ov 0) (ov 1) (fw q)) (fun q => su_hose (hv 1 q) (hv 2 q) p1 p2 * 40 + hv 0 q) k := by simp only [su_nk, hq]
        exact ih (k + 1) (by omega) kg Pk H _ ls (by rw [hL]; exact ePk) (by rw [hL]; exact hrow) hw (lv_sub hl [0, 2, 3, 4, 5, 6, 7, 8] rfl)
      · skip
        refine W.eq (g2 := F0 m 47 ls [.ref q]) rfl ?_
        obtain ⟨fq, fqw, fo, ft⟩ := gy k q hq
        refine lv_astore (lv' := [(8, .ref q), (7, .int (nI k)), (6, .int (40 : Int32)), (5, .ref aH), (0, .ref h0), (1, .int p1), (2, .int p2), (3, .int p3), (4, .int p4)]) hx hb dd_C_near_47 hl (by decide) rfl (fun ls hl => ?_)
        refine lv_aload hx hb dd_C_near_49 (lv_at hl 0 rfl) ?_
        refine lv_ifnull hx hb dd_C_near_51 ?_
        refine lv_aload hx hb dd_C_near_54 (lv_at hl 0 rfl) ?_
        refine lv_iload_n hx hb dd_C_near_56 rfl (lv_at hl 7 rfl) ?_
        refine lv_aload_n hx hb dd_C_near_57 rfl (lv_at hl 4 rfl) ?_
        refine pm_get (ci := 0) (C := cn_C) (T := cf_C) (N := 8) (v := .int al) hx hb hg gu_C hown hK.2.1 hw g0 rfl 7 (by decide) (hg _ gf_C_46) (fun _ h9 => h9) rfl dd_C_near_58 ?_
        refine cx_after (cx_rV (n := 2) (As := [.int p3, .int al]) (rest := []) ⟨hx, hb, hml, hown, hg⟩ (c_H_isUsable l z D ac sa Pk q (aw q) (hv 0 q) (hv 1 q) (hv 2 q) (hv 3 q) (hv 4 q) (hv 6 q) (hv 7 q) (hv 8 q) (hv 9 q) (ct q)  (ov 0) (ov 1) (fw q) p3 al fo fq fqw) (cx_gv gm_C_164 gi_H_isUsable gs_H_isUsable gn_H gc_H_isUsable) (by decide +kernel) ⟨by decide, by decide⟩ hK hw fq rfl rfl hl.1 rfl (Nat.le_of_ble_eq_true rfl) dd_C_near_61 ⟨by decide, by decide⟩) hw (fun v9 P9 H locs hp hw => ?_)
        obtain ⟨rfl, e9⟩ := hp
        rw [e9] at hw
        clear e9 P9
        refine W.eq (g2 := F0 m 64 ls [.int (su_us (hv 7 q) (hv 4 q) (hv 8 q) al p3 (ov 0) (ov 1) (fw q))]) rfl ?_
        refine lv_if_eq (tgt := 86) hx hb dd_C_near_64 (by decide) (fun c4 => ?_) (fun c4 => ?_)
        · skip
          obtain ⟨x5, ex5⟩ : ∃ y : Int32, y = (nI k) + 1 := ⟨_, rfl⟩
          refine lv_iinc (v := x5) (lv' := [(7, .int x5), (8, .ref q), (6, .int (40 : Int32)), (5, .ref aH), (0, .ref h0), (1, .int p1), (2, .int p2), (3, .int p3), (4, .int p4)]) hx hb dd_C_near_86 hl (k := 1) rfl (by rw [ex5]; rfl) (by decide) rfl (fun ls hl => ?_)
          refine lv_goto (tgt := 35) hx hb dd_C_near_89 (by decide) ?_
          have hi : x5 = nI (k + 1) := by rw [ex5]; exact nI_1 k
          rw [hi] at hl
          have hL : su_nk fH (fun q => su_us (hv 7 q) (hv 4 q) (hv 8 q) al p3 (ov 0) (ov 1) (fw q)) (fun q => su_hose (hv 1 q) (hv 2 q) p1 p2 * 40 + hv 0 q) (k + 1) = su_nk fH (fun q => su_us (hv 7 q) (hv 4 q) (hv 8 q) al p3 (ov 0) (ov 1) (fw q)) (fun q => su_hose (hv 1 q) (hv 2 q) p1 p2 * 40 + hv 0 q) k := by simp only [su_nk, hq]; exact if_pos c4
          exact ih (k + 1) (by omega) kg Pk H _ ls (by rw [hL]; exact ePk) (by rw [hL]; exact hrow) hw (lv_sub hl [0, 2, 3, 4, 5, 6, 7, 8] rfl)
        · skip
          refine lv_aload_n hx hb dd_C_near_67 rfl (lv_at hl 4 rfl) ?_
          refine pm_get (ci := 0) (C := cn_C) (T := cf_C) (N := 8) (v := .ref aK) hx hb hg gu_C hown hK.2.1 hw g0 rfl 3 (by decide) (hg _ gf_C_28) (fun _ h9 => h9) rfl dd_C_near_68 ?_
          refine lv_aload hx hb dd_C_near_71 (lv_at hl 0 rfl) ?_
          refine lv_iload_n hx hb dd_C_near_73 rfl (lv_at hl 5 rfl) ?_
          refine lv_iload_n hx hb dd_C_near_74 rfl (lv_at hl 6 rfl) ?_
          refine cx_after (cx_rV (n := 2) (As := [.int p1, .int p2]) (rest := [.ref aK]) ⟨hx, hb, hml, hown, hg⟩ (c_H_hoseFrom l z D ac sa Pk q (aw q) (hv 0 q) (hv 1 q) (hv 2 q) (hv 3 q) (hv 4 q) (hv 6 q) (hv 7 q) (hv 8 q) (hv 9 q) (ct q) p1 p2 fq) (cx_gv gm_C_174 gi_H_hoseFrom gs_H_hoseFrom gn_H gc_H_hoseFrom) (by decide +kernel) ⟨by decide, by decide⟩ hK hw fq rfl rfl hl.1 rfl (Nat.le_of_ble_eq_true rfl) dd_C_near_75 ⟨by decide, by decide⟩) hw (fun v9 P9 H locs hp hw => ?_)
          obtain ⟨rfl, e9⟩ := hp
          rw [e9] at hw
          clear e9 P9
          refine W.eq (g2 := F0 m 78 ls [.int (su_hose (hv 1 q) (hv 2 q) p1 p2), .ref aK]) rfl ?_
          refine lv_aload hx hb dd_C_near_78 (lv_at hl 0 rfl) ?_
          refine pm_get (ci := 1) (C := cn_H) (T := cf_H) (N := 11) (v := .int (hv 0 q)) hx hb hg gu_H hown hK.2.1 hw fq rfl 0 (by decide) (hg _ gf_C_177) (fun _ h9 => h9) rfl dd_C_near_80 ?_
          refine cx_after (cx_rV (n := 2) (As := [.int (su_hose (hv 1 q) (hv 2 q) p1 p2), .int (hv 0 q)]) (rest := []) ⟨hx, hb, hml, hown, hg⟩ (c_K_insert l z D ac sa Pk aK ak (su_nk fH (fun q => su_us (hv 7 q) (hv 4 q) (hv 8 q) al p3 (ov 0) (ov 1) (fw q)) (fun q => su_hose (hv 1 q) (hv 2 q) p1 p2 * 40 + hv 0 q) k).length kg (su_hose (hv 1 q) (hv 2 q) p1 p2) (hv 0 q) (Nat.lt_of_le_of_lt (su_nk_len _ _ _ k) hlt) g2 g3) (cx_gv gm_C_180 gi_K_insert gs_K_insert gn_K gc_K_insert) (by decide +kernel) ⟨by decide, by decide⟩ hK hw g2 rfl rfl hl.1 rfl (Nat.le_of_ble_eq_true rfl) dd_C_near_83 ⟨by decide, by decide⟩) hw (fun v9 P9 H locs hp hw => ?_)
          obtain ⟨rfl, a9, kg9, hi9, e9⟩ := hp
          refine W.eq (g2 := F0 m 86 ls []) rfl ?_
          obtain ⟨x6, ex6⟩ : ∃ y : Int32, y = (nI k) + 1 := ⟨_, rfl⟩
          refine lv_iinc (v := x6) (lv' := [(7, .int x6), (8, .ref q), (6, .int (40 : Int32)), (5, .ref aH), (0, .ref h0), (1, .int p1), (2, .int p2), (3, .int p3), (4, .int p4)]) hx hb dd_C_near_86 hl (k := 1) rfl (by rw [ex6]; rfl) (by decide) rfl (fun ls hl => ?_)
          refine lv_goto (tgt := 35) hx hb dd_C_near_89 (by decide) ?_
          have hi : x6 = nI (k + 1) := by rw [ex6]; exact nI_1 k
          rw [hi] at hl
          have hL : su_nk fH (fun q => su_us (hv 7 q) (hv 4 q) (hv 8 q) al p3 (ov 0) (ov 1) (fw q)) (fun q => su_hose (hv 1 q) (hv 2 q) p1 p2 * 40 + hv 0 q) (k + 1) = su_insl ((fun q => su_hose (hv 1 q) (hv 2 q) p1 p2 * 40 + hv 0 q) q) (su_nk fH (fun q => su_us (hv 7 q) (hv 4 q) (hv 8 q) al p3 (ov 0) (ov 1) (fw q)) (fun q => su_hose (hv 1 q) (hv 2 q) p1 p2 * 40 + hv 0 q) k) := by simp only [su_nk, hq]; exact if_neg c4
          have hLn : (su_nk fH (fun q => su_us (hv 7 q) (hv 4 q) (hv 8 q) al p3 (ov 0) (ov 1) (fw q)) (fun q => su_hose (hv 1 q) (hv 2 q) p1 p2 * 40 + hv 0 q) (k + 1)).length = (su_nk fH (fun q => su_us (hv 7 q) (hv 4 q) (hv 8 q) al p3 (ov 0) (ov 1) (fw q)) (fun q => su_hose (hv 1 q) (hv 2 q) p1 p2 * 40 + hv 0 q) k).length + 1 := by rw [hL, su_insl_len]
          refine ih (k + 1) (by omega) kg9 P9 H _ ls ?_ (by rw [hL]; exact su_ins_row rfl hi9 hrow (su_nk_sorted _ _ _ k)) hw (lv_sub hl [0, 2, 3, 4, 5, 6, 7, 8] rfl)
          rw [e9, ePk, hLn, nI_succ, pm_uc nK, pm_uu, pm_uu]
  refine lv_iload_n hx hb dd_C_near_0 rfl (lv_at hl 1 rfl) ?_
  refine lv_iload_n hx hb dd_C_near_1 rfl (lv_at hl 2 rfl) ?_
  refine cx_afterX (cx_rSX (n := 2) (As := [.int p1, .int p2]) (rest := []) ⟨hx, hb, hml, hown, hg⟩ (c_C_needPlace l hT z D ac sa P p1 p2) (cx_gs gm_C_61 gt_C_needPlace gn_C gc_C_needPlace) (by decide +kernel) ⟨by decide, by decide⟩ hK hw rfl hl.1 rfl (Nat.le_of_ble_eq_true rfl) dd_C_near_2 ⟨by decide, by decide⟩) hw (fun E9 ce9 q9 P9 H locs hp hw hce hcv hcl => ?_) (fun v9 P9 H locs hp hw => ?_)
  · skip
    obtain ⟨rfl, e9, n7⟩ := hp
    rw [e9] at hw
    clear e9 P9
    refine cx_pass hout hlocks hce hcv hcl hw ?_ (by decide) (by decide)
    exact ⟨rfl, rfl, fun h9 => n7 h9.1⟩
  · skip
    obtain ⟨rfl, e9, n8⟩ := hp
    rw [e9] at hw
    clear e9 P9
    refine W.eq (g2 := F0 m 5 ls []) rfl ?_
    refine lv_iload_n hx hb dd_C_near_5 rfl (lv_at hl 3 rfl) ?_
    refine cx_afterX (cx_rSX (n := 1) (As := [.int p3]) (rest := []) ⟨hx, hb, hml, hown, hg⟩ (c_C_needDay l hT z D ac sa P p3) (cx_gs gm_C_80 gt_C_needDay gn_C gc_C_needDay) (by decide +kernel) ⟨by decide, by decide⟩ hK hw rfl hl.1 rfl (Nat.le_of_ble_eq_true rfl) dd_C_near_6 ⟨by decide, by decide⟩) hw (fun E9 ce9 q9 P9 H locs hp hw hce hcv hcl => ?_) (fun v9 P9 H locs hp hw => ?_)
    · skip
      obtain ⟨rfl, e9, n9⟩ := hp
      rw [e9] at hw
      clear e9 P9
      refine cx_pass hout hlocks hce hcv hcl hw ?_ (by decide) (by decide)
      exact ⟨rfl, rfl, fun h9 => n9 h9.2.1⟩
    · skip
      obtain ⟨rfl, e9, n10⟩ := hp
      rw [e9] at hw
      clear e9 P9
      refine W.eq (g2 := F0 m 9 ls []) rfl ?_
      refine lv_iload hx hb dd_C_near_9 (lv_at hl 4 rfl) ?_
      refine cx_afterX (cx_rSX (n := 1) (As := [.int p4]) (rest := []) ⟨hx, hb, hml, hown, hg⟩ (c_C_needNotBelowZero l hT z D ac sa P p4) (cx_gs gm_C_168 gt_C_needNotBelowZero gn_C gc_C_needNotBelowZero) (by decide +kernel) ⟨by decide, by decide⟩ hK hw rfl hl.1 rfl (Nat.le_of_ble_eq_true rfl) dd_C_near_11 ⟨by decide, by decide⟩) hw (fun E9 ce9 q9 P9 H locs hp hw hce hcv hcl => ?_) (fun v9 P9 H locs hp hw => ?_)
      · skip
        obtain ⟨rfl, e9, n11⟩ := hp
        rw [e9] at hw
        clear e9 P9
        refine cx_pass hout hlocks hce hcv hcl hw ?_ (by decide) (by decide)
        exact ⟨rfl, rfl, fun h9 => n11 h9.2.2⟩
      · skip
        obtain ⟨rfl, e9, n12⟩ := hp
        rw [e9] at hw
        clear e9 P9
        refine W.eq (g2 := F0 m 14 ls []) rfl ?_
        refine lv_aload_n hx hb dd_C_near_14 rfl (lv_at hl 0 rfl) ?_
        refine pm_get (ci := 0) (C := cn_C) (T := cf_C) (N := 8) (v := .ref aK) hx hb hg gu_C hown hK.2.1 hw f0 rfl 3 (by decide) (hg _ gf_C_28) (fun _ h9 => h9) rfl dd_C_near_15 ?_
        refine cx_after (cx_rV (n := 0) (As := []) (rest := []) ⟨hx, hb, hml, hown, hg⟩ (c_K_clear l z D ac sa P aK ak ks kf f2) (cx_gv gm_C_171 gi_K_clear gs_K_clear gn_K gc_K_clear) (by decide +kernel) ⟨by decide, by decide⟩ hK hw f2 rfl rfl hl.1 rfl (Nat.le_of_ble_eq_true rfl) dd_C_near_18 ⟨by decide, by decide⟩) hw (fun v9 P9 H locs hp hw => ?_)
        obtain ⟨rfl, e9⟩ := hp
        rw [e9] at hw
        clear e9 P9
        refine W.eq (g2 := F0 m 21 ls []) rfl ?_
        have hw : pm_W z D cl_w (pm_up P aK (.inr (4, [.ref ak, .int 0]))) s.heap H _ := hw
        obtain ⟨P13, eP13⟩ : ∃ q : pm_T, q = pm_up P aK (.inr (4, [.ref ak, .int 0])) := ⟨_, rfl⟩
        rw [← eP13] at hw
        have f14 : P13 h0 = some (.inr (0, [.ref aH, .ref aT, .ref aL, .ref aK, .ref aW, .int nh, .int nt, .int al])) := by rw [eP13, pm_n (pm_ne f0 f2 (by simp))]; exact f0
        have f15 : P13 aH = some (.inl (ac 3, 40, .inr (.inr (.inr (.inr fH))))) := by rw [eP13, pm_n (pm_ne f1 f2 (by simp))]; exact f1
        have f16 : P13 ak = some (.inl (ac 0, 40, .inl kf)) := by rw [eP13, pm_n (pm_ne f3 f2 (by simp))]; exact f3
        have f17 : P13 aK = some (.inr (4, [.ref ak, .int 0])) := by rw [eP13]; exact pm_s
        refine lv_aload_n hx hb dd_C_near_21 rfl (lv_at hl 0 rfl) ?_
        refine pm_get (ci := 0) (C := cn_C) (T := cf_C) (N := 8) (v := .ref aH) hx hb hg gu_C hown hK.2.1 hw f14 rfl 0 (by decide) (hg _ gf_C_11) (fun _ h9 => h9) rfl dd_C_near_22 ?_
        refine lv_astore (lv' := [(5, .ref aH), (0, .ref h0), (1, .int p1), (2, .int p2), (3, .int p3), (4, .int p4)]) hx hb dd_C_near_25 hl (by decide) rfl (fun ls hl => ?_)
        refine lv_aload hx hb dd_C_near_27 (lv_at hl 0 rfl) ?_
        refine pm_alen (v := 40) hx hb hK.2.1 hw 3 f15 rfl rfl dd_C_near_29 ?_
        refine lv_istore (lv' := [(6, .int (40 : Int32)), (5, .ref aH), (0, .ref h0), (1, .int p1), (2, .int p2), (3, .int p3), (4, .int p4)]) hx hb dd_C_near_30 hl (by decide) rfl (fun ls hl => ?_)
        refine lv_iconst (v := 0) hx hb dd_C_near_32 (by decide) ?_
        refine lv_istore (lv' := [(7, .int (0 : Int32)), (6, .int (40 : Int32)), (5, .ref aH), (0, .ref h0), (1, .int p1), (2, .int p2), (3, .int p3), (4, .int p4)]) hx hb dd_C_near_33 hl (by decide) rfl (fun ls hl => ?_)
        exact lp ⟨n8, n10, n12⟩ 40 0 (by decide) kf P13 _ _ ls (by rw [eP13, pm_id f3]; rfl) (fun j hj => absurd hj (Nat.not_lt_zero j)) hw (lv_sub hl [0, 1, 2, 3, 4, 5, 6, 7] rfl)

set_option maxHeartbeats 4000000 in
set_option maxRecDepth 100000 in
theorem c_C_overdue (l : Launch) (hT : l.stackTraces = false) (z : Nat) (D : va_G) (ac : Nat → ClassId) (sa : Nat → Nat) (P : pm_T) (h0 aH aT aL aK aW : Nat) (nh nt al : Int32) (ak : Nat) (ks : Int32) (kf : Nat → Int32) (fH : Nat → Option Nat) (hv tv ov : Nat → Nat → Int32) (aw : Nat → Nat) (ct : Nat → Option Nat) (fw : Nat → Nat → Option Nat) (p1 p2 p3 : Int32) (fy : hy_W P ac fH hv tv ov aw ct fw) (f0 : P h0 = some (.inr (0, [.ref aH, .ref aT, .ref aL, .ref aK, .ref aW, .int nh, .int nt, .int al]))) (f1 : P aH = some (.inl (ac 3, 40, .inr (.inr (.inr (.inr fH)))))) (f2 : P aK = some (.inr (4, [.ref ak, .int ks]))) (f3 : P ak = some (.inl (ac 0, 40, .inl kf))) : cx_V l yy_C_overdue bb_C_overdue 8 (some .int) ({ frames := 7, cells := 2, slots := 12, locals := 111 } : Room) z D ac sa P [.ref h0, .int p1, .int p2, .int p3] (fun v P' => (su_day p1 ∧ su_ds p2 ∧ su_nn p3) ∧ ∃ kg : Nat → Int32, su_row kg (su_nk fH (fun q => su_od (tv 2) (ct q) p1 p2) (fun q => su_ow (tv 2) (ct q) * 40 + hv 0 q) 40) ∧ v = some (.int (su_num kg (nI (su_nk fH (fun q => su_od (tv 2) (ct q) p1 p2) (fun q => su_ow (tv 2) (ct q) * 40 + hv 0 q) 40).length) p3)) ∧ P' = pm_up (pm_up P ak (.inl (ac 0, 40, .inl kg))) aK (.inr (4, [.ref ak, .int (nI (su_nk fH (fun q => su_od (tv 2) (ct q) p1 p2) (fun q => su_ow (tv 2) (ct q) * 40 + hv 0 q) 40).length)]))) (fun E P' => E = xn_IOB ∧ P' = P ∧ ¬ (su_day p1 ∧ su_ds p2 ∧ su_nn p3)) := by
  refine cx_ofV (by decide) (Nat.le_of_ble_eq_true rfl) (fun p e s m below meth c ls hx hb hr hml hg hown hlocks hout hK hw hl => ?_)
  have hl : lv_has ls 8 [(0, .ref h0), (1, .int p1), (2, .int p2), (3, .int p3)] := hl
  have hown : s.vm.findClass cn_C = some m.cls := hown
  have lp : (su_day p1 ∧ su_ds p2 ∧ su_nn p3) → ∀ (n k : Nat), k + n = 40 → ∀ (kg : Nat → Int32) (Pk : pm_T) (H : Heap) (locs : List Loc) (ls : Array Slot), Pk = pm_up (pm_up P ak (.inl (ac 0, 40, .inl kg))) aK (.inr (4, [.ref ak, .int (nI (su_nk fH (fun q => su_od (tv 2) (ct q) p1 p2) (fun q => su_ow (tv 2) (ct q) * 40 + hv 0 q) k).length)])) → su_row kg (su_nk fH (fun q => su_od (tv 2) (ct q) p1 p2) (fun q => su_ow (tv 2) (ct q) * 40 + hv 0 q) k) → pm_W z D cl_w Pk s.heap H locs → lv_has ls 8 [(6, .int (nI k)), (5, .int (40 : Int32)), (4, .ref aH), (0, .ref h0), (1, .int p1), (2, .int p2), (3, .int p3)] → W p l e ({ frames := 7, cells := 2, slots := 12, locals := 111 } : Room) s m ([.ref h0, .int p1, .int p2, .int p3] : List Value).toArray below meth c H locs 2 12 (vx_MQ below (cx_Q z D (fun v P' => (su_day p1 ∧ su_ds p2 ∧ su_nn p3) ∧ ∃ kg : Nat → Int32, su_row kg (su_nk fH (fun q => su_od (tv 2) (ct q) p1 p2) (fun q => su_ow (tv 2) (ct q) * 40 + hv 0 q) 40) ∧ v = some (.int (su_num kg (nI (su_nk fH (fun q => su_od (tv 2) (ct q) p1 p2) (fun q => su_ow (tv 2) (ct q) * 40 + hv 0 q) 40).length) p3)) ∧ P' = pm_up (pm_up P ak (.inl (ac 0, 40, .inl kg))) aK (.inr (4, [.ref ak, .int (nI (su_nk fH (fun q => su_od (tv 2) (ct q) p1 p2) (fun q => su_ow (tv 2) (ct q) * 40 + hv 0 q) 40).length)])))) (cx_X z D (fun E P' => E = xn_IOB ∧ P' = P ∧ ¬ (su_day p1 ∧ su_ds p2 ∧ su_nn p3))) ([.ref h0, .int p1, .int p2, .int p3] : List Value).toArray s ({ frames := 7, cells := 2, slots := 12, locals := 111 } : Room).cells ({ frames := 7, cells := 2, slots := 12, locals := 111 } : Room).slots (pm_A z)) (F0 m 50 ls []) := by
    intro hpre n
    induction n with
    | zero =>
      intro k hk kg Pk H locs ls ePk hrow hw hl
      have hk : k = 40 := by omega
      subst hk
      have nK : aK ≠ ak := pm_ne f2 f3 (by simp)
      have g0 : Pk h0 = some (.inr (0, [.ref aH, .ref aT, .ref aL, .ref aK, .ref aW, .int nh, .int nt, .int al])) := by rw [ePk, pm_n (pm_ne f0 f2 (by simp)), pm_n (pm_ne f0 f3 (by simp))]; exact f0
      have g1 : Pk aH = some (.inl (ac 3, 40, .inr (.inr (.inr (.inr fH))))) := by rw [ePk, pm_n (pm_ne f1 f2 (by simp)), pm_n (pm_ne f1 f3 (by simp))]; exact f1
      have g2 : Pk aK = some (.inr (4, [.ref ak, .int (nI (su_nk fH (fun q => su_od (tv 2) (ct q) p1 p2) (fun q => su_ow (tv 2) (ct q) * 40 + hv 0 q) 40).length)])) := by rw [ePk]; exact pm_s
      have g3 : Pk ak = some (.inl (ac 0, 40, .inl kg)) := by rw [ePk, pm_n (Ne.symm nK)]; exact pm_s
      have gy : hy_W Pk ac fH hv tv ov aw ct fw := by rw [ePk]; exact (fy.up f3 rfl).up (x := .inr (4, [.ref ak, .int ks])) (by rw [pm_n nK]; exact f2) rfl
      refine lv_iload hx hb dd_C_overdue_50 (lv_at hl 0 rfl) ?_
      refine lv_iload hx hb dd_C_overdue_52 (lv_at hl 1 rfl) ?_
      refine lv_icmp_ge (tgt := 102) hx hb dd_C_overdue_54 (by decide) (fun c1 => ?_) (fun c1 => absurd (nI_le (Nat.le_refl 40) (by decide)) c1)
      refine lv_aload_n hx hb dd_C_overdue_102 rfl (lv_at hl 3 rfl) ?_
      refine pm_get (ci := 0) (C := cn_C) (T := cf_C) (N := 8) (v := .ref aK) hx hb hg gu_C hown hK.2.1 hw g0 rfl 3 (by decide) (hg _ gf_C_28) (fun _ h9 => h9) rfl dd_C_overdue_103 ?_
      refine lv_iload_n hx hb dd_C_overdue_106 rfl (lv_at hl 6 rfl) ?_
      refine cx_after (cx_rV (n := 1) (As := [.int p3]) (rest := []) ⟨hx, hb, hml, hown, hg⟩ (c_K_numberAt l z D ac sa Pk aK ak (nI (su_nk fH (fun q => su_od (tv 2) (ct q) p1 p2) (fun q => su_ow (tv 2) (ct q) * 40 + hv 0 q) 40).length) kg p3 g2 g3) (cx_gv gm_C_183 gi_K_numberAt gs_K_numberAt gn_K gc_K_numberAt) (by decide +kernel) ⟨by decide, by decide⟩ hK hw g2 rfl rfl hl.1 rfl (Nat.le_of_ble_eq_true rfl) dd_C_overdue_107 ⟨by decide, by decide⟩) hw (fun v9 P9 H locs hp hw => ?_)
      obtain ⟨rfl, e9⟩ := hp
      rw [e9] at hw
      clear e9 P9
      refine W.eq (g2 := F0 m 110 ls [.int (su_num kg (nI (su_nk fH (fun q => su_od (tv 2) (ct q) p1 p2) (fun q => su_ow (tv 2) (ct q) * 40 + hv 0 q) 40).length) p3)]) rfl ?_
      refine vx_ret (cx_iret (v := (su_num kg (nI (su_nk fH (fun q => su_od (tv 2) (ct q) p1 p2) (fun q => su_ow (tv 2) (ct q) * 40 + hv 0 q) 40).length) p3)) hx hb hr rfl hlocks hw dd_C_overdue_110 (by decide) (by decide) ?_)
      exact ⟨hpre, kg, hrow, rfl, ePk⟩
    | succ n ih =>
      intro k hk kg Pk H locs ls ePk hrow hw hl
      have hlt : k < 40 := by omega
      have hcl : (nI k).toNatClampNeg = k := nI_clamp (by omega)
      have nK : aK ≠ ak := pm_ne f2 f3 (by simp)
      have g0 : Pk h0 = some (.inr (0, [.ref aH, .ref aT, .ref aL, .ref aK, .ref aW, .int nh, .int nt, .int al])) := by rw [ePk, pm_n (pm_ne f0 f2 (by simp)), pm_n (pm_ne f0 f3 (by simp))]; exact f0
      have g1 : Pk aH = some (.inl (ac 3, 40, .inr (.inr (.inr (.inr fH))))) := by rw [ePk, pm_n (pm_ne f1 f2 (by simp)), pm_n (pm_ne f1 f3 (by simp))]; exact f1
      have g2 : Pk aK = some (.inr (4, [.ref ak, .int (nI (su_nk fH (fun q => su_od (tv 2) (ct q) p1 p2) (fun q => su_ow (tv 2) (ct q) * 40 + hv 0 q) k).length)])) := by rw [ePk]; exact pm_s
      have g3 : Pk ak = some (.inl (ac 0, 40, .inl kg)) := by rw [ePk, pm_n (Ne.symm nK)]; exact pm_s
      have gy : hy_W Pk ac fH hv tv ov aw ct fw := by rw [ePk]; exact (fy.up f3 rfl).up (x := .inr (4, [.ref ak, .int ks])) (by rw [pm_n nK]; exact f2) rfl
      refine lv_iload hx hb dd_C_overdue_50 (lv_at hl 0 rfl) ?_
      refine lv_iload hx hb dd_C_overdue_52 (lv_at hl 1 rfl) ?_
      refine lv_icmp_ge (tgt := 102) hx hb dd_C_overdue_54 (by decide) (fun c2 => absurd c2 (nI_ge hlt (by decide))) (fun c2 => ?_)
      refine lv_aload hx hb dd_C_overdue_57 (lv_at hl 2 rfl) ?_
      refine lv_iload hx hb dd_C_overdue_59 (lv_at hl 0 rfl) ?_
      refine pm_aald hx hb hK.2.1 hw 3 g1 rfl (vp_in_nI hlt (by decide)) dd_C_overdue_61 ?_
      refine W.eq (g2 := F0 m 62 ls [va_rf (fH k)]) (by rw [hcl]) ?_
      rcases hq : fH k with _ | q
      · skip
        refine W.eq (g2 := F0 m 62 ls [.null]) rfl ?_
        refine lv_astoreN (lv' := [(7, .null), (6, .int (nI k)), (5, .int (40 : Int32)), (4, .ref aH), (0, .ref h0), (1, .int p1), (2, .int p2), (3, .int p3)]) hx hb dd_C_overdue_62 hl (by decide) rfl (fun ls hl => ?_)
        refine lv_aloadN hx hb dd_C_overdue_64 (lv_at hl 0 rfl) ?_
        refine lv_ifnullN (tgt := 96) hx hb dd_C_overdue_66 (by decide) ?_
        obtain ⟨x3, ex3⟩ : ∃ y : Int32, y = (nI k) + 1 := ⟨_, rfl⟩
        refine lv_iinc (v := x3) (lv' := [(6, .int x3), (7, .null), (5, .int (40 : Int32)), (4, .ref aH), (0, .ref h0), (1, .int p1), (2, .int p2), (3, .int p3)]) hx hb dd_C_overdue_96 hl (k := 1) rfl (by rw [ex3]; rfl) (by decide) rfl (fun ls hl => ?_)
        refine lv_goto (tgt := 50) hx hb dd_C_overdue_99 (by decide) ?_
        have hi : x3 = nI (k + 1) := by rw [ex3]; exact nI_1 k
        rw [hi] at hl
        have hL : su_nk fH (fun q => su_od (tv 2) (ct q) p1 p2) (fun q => su_ow (tv 2) (ct q) * 40 + hv 0 q) (k + 1) = su_nk fH (fun q => su_od (tv 2) (ct q) p1 p2) (fun q => su_ow (tv 2) (ct q) * 40 + hv 0 q) k := by simp only [su_nk, hq]
        exact ih (k + 1) (by omega) kg Pk H _ ls (by rw [hL]; exact ePk) (by rw [hL]; exact hrow) hw (lv_sub hl [0, 2, 3, 4, 5, 6, 7] rfl)
      · skip
        refine W.eq (g2 := F0 m 62 ls [.ref q]) rfl ?_
        obtain ⟨fq, fqw, fo, ft⟩ := gy k q hq
        refine lv_astore (lv' := [(7, .ref q), (6, .int (nI k)), (5, .int (40 : Int32)), (4, .ref aH), (0, .ref h0), (1, .int p1), (2, .int p2), (3, .int p3)]) hx hb dd_C_overdue_62 hl (by decide) rfl (fun ls hl => ?_)
        refine lv_aload hx hb dd_C_overdue_64 (lv_at hl 0 rfl) ?_
        refine lv_ifnull hx hb dd_C_overdue_66 ?_
        refine lv_aload hx hb dd_C_overdue_69 (lv_at hl 0 rfl) ?_
        refine lv_iload_n hx hb dd_C_overdue_71 rfl (lv_at hl 5 rfl) ?_
        refine lv_iload_n hx hb dd_C_overdue_72 rfl (lv_at hl 6 rfl) ?_
        refine cx_after (cx_rV (n := 2) (As := [.int p1, .int p2]) (rest := []) ⟨hx, hb, hml, hown, hg⟩ (c_H_isOverdue l z D ac sa Pk q (aw q) (hv 0 q) (hv 1 q) (hv 2 q) (hv 3 q) (hv 4 q) (hv 6 q) (hv 7 q) (hv 8 q) (hv 9 q) (ct q) (tv 0) (tv 1) (tv 2) (tv 3) (tv 4) (tv 5) p1 p2 ft fq) (cx_gv gm_C_225 gi_H_isOverdue gs_H_isOverdue gn_H gc_H_isOverdue) (by decide +kernel) ⟨by decide, by decide⟩ hK hw fq rfl rfl hl.1 rfl (Nat.le_of_ble_eq_true rfl) dd_C_overdue_73 ⟨by decide, by decide⟩) hw (fun v9 P9 H locs hp hw => ?_)
        obtain ⟨rfl, e9⟩ := hp
        rw [e9] at hw
        clear e9 P9
        refine W.eq (g2 := F0 m 76 ls [.int (su_od (tv 2) (ct q) p1 p2)]) rfl ?_
        refine lv_if_eq (tgt := 96) hx hb dd_C_overdue_76 (by decide) (fun c4 => ?_) (fun c4 => ?_)
        · skip
          obtain ⟨x5, ex5⟩ : ∃ y : Int32, y = (nI k) + 1 := ⟨_, rfl⟩
          refine lv_iinc (v := x5) (lv' := [(6, .int x5), (7, .ref q), (5, .int (40 : Int32)), (4, .ref aH), (0, .ref h0), (1, .int p1), (2, .int p2), (3, .int p3)]) hx hb dd_C_overdue_96 hl (k := 1) rfl (by rw [ex5]; rfl) (by decide) rfl (fun ls hl => ?_)
          refine lv_goto (tgt := 50) hx hb dd_C_overdue_99 (by decide) ?_
          have hi : x5 = nI (k + 1) := by rw [ex5]; exact nI_1 k
          rw [hi] at hl
          have hL : su_nk fH (fun q => su_od (tv 2) (ct q) p1 p2) (fun q => su_ow (tv 2) (ct q) * 40 + hv 0 q) (k + 1) = su_nk fH (fun q => su_od (tv 2) (ct q) p1 p2) (fun q => su_ow (tv 2) (ct q) * 40 + hv 0 q) k := by simp only [su_nk, hq]; exact if_pos c4
          exact ih (k + 1) (by omega) kg Pk H _ ls (by rw [hL]; exact ePk) (by rw [hL]; exact hrow) hw (lv_sub hl [0, 2, 3, 4, 5, 6, 7] rfl)
        · skip
          refine lv_aload_n hx hb dd_C_overdue_79 rfl (lv_at hl 4 rfl) ?_
          refine pm_get (ci := 0) (C := cn_C) (T := cf_C) (N := 8) (v := .ref aK) hx hb hg gu_C hown hK.2.1 hw g0 rfl 3 (by decide) (hg _ gf_C_28) (fun _ h9 => h9) rfl dd_C_overdue_80 ?_
          refine lv_aload hx hb dd_C_overdue_83 (lv_at hl 0 rfl) ?_
          refine cx_after (cx_rV (n := 0) (As := []) (rest := [.ref aK]) ⟨hx, hb, hml, hown, hg⟩ (c_H_overdueWeight l z D ac sa Pk q (aw q) (hv 0 q) (hv 1 q) (hv 2 q) (hv 3 q) (hv 4 q) (hv 6 q) (hv 7 q) (hv 8 q) (hv 9 q) (ct q) (tv 0) (tv 1) (tv 2) (tv 3) (tv 4) (tv 5)  ft fq) (cx_gv gm_C_228 gi_H_overdueWeight gs_H_overdueWeight gn_H gc_H_overdueWeight) (by decide +kernel) ⟨by decide, by decide⟩ hK hw fq rfl rfl hl.1 rfl (Nat.le_of_ble_eq_true rfl) dd_C_overdue_85 ⟨by decide, by decide⟩) hw (fun v9 P9 H locs hp hw => ?_)
          obtain ⟨rfl, e9⟩ := hp
          rw [e9] at hw
          clear e9 P9
          refine W.eq (g2 := F0 m 88 ls [.int (su_ow (tv 2) (ct q)), .ref aK]) rfl ?_
          refine lv_aload hx hb dd_C_overdue_88 (lv_at hl 0 rfl) ?_
          refine pm_get (ci := 1) (C := cn_H) (T := cf_H) (N := 11) (v := .int (hv 0 q)) hx hb hg gu_H hown hK.2.1 hw fq rfl 0 (by decide) (hg _ gf_C_177) (fun _ h9 => h9) rfl dd_C_overdue_90 ?_
          refine cx_after (cx_rV (n := 2) (As := [.int (su_ow (tv 2) (ct q)), .int (hv 0 q)]) (rest := []) ⟨hx, hb, hml, hown, hg⟩ (c_K_insert l z D ac sa Pk aK ak (su_nk fH (fun q => su_od (tv 2) (ct q) p1 p2) (fun q => su_ow (tv 2) (ct q) * 40 + hv 0 q) k).length kg (su_ow (tv 2) (ct q)) (hv 0 q) (Nat.lt_of_le_of_lt (su_nk_len _ _ _ k) hlt) g2 g3) (cx_gv gm_C_180 gi_K_insert gs_K_insert gn_K gc_K_insert) (by decide +kernel) ⟨by decide, by decide⟩ hK hw g2 rfl rfl hl.1 rfl (Nat.le_of_ble_eq_true rfl) dd_C_overdue_93 ⟨by decide, by decide⟩) hw (fun v9 P9 H locs hp hw => ?_)
          obtain ⟨rfl, a9, kg9, hi9, e9⟩ := hp
          refine W.eq (g2 := F0 m 96 ls []) rfl ?_
          obtain ⟨x6, ex6⟩ : ∃ y : Int32, y = (nI k) + 1 := ⟨_, rfl⟩
          refine lv_iinc (v := x6) (lv' := [(6, .int x6), (7, .ref q), (5, .int (40 : Int32)), (4, .ref aH), (0, .ref h0), (1, .int p1), (2, .int p2), (3, .int p3)]) hx hb dd_C_overdue_96 hl (k := 1) rfl (by rw [ex6]; rfl) (by decide) rfl (fun ls hl => ?_)
          refine lv_goto (tgt := 50) hx hb dd_C_overdue_99 (by decide) ?_
          have hi : x6 = nI (k + 1) := by rw [ex6]; exact nI_1 k
          rw [hi] at hl
          have hL : su_nk fH (fun q => su_od (tv 2) (ct q) p1 p2) (fun q => su_ow (tv 2) (ct q) * 40 + hv 0 q) (k + 1) = su_insl ((fun q => su_ow (tv 2) (ct q) * 40 + hv 0 q) q) (su_nk fH (fun q => su_od (tv 2) (ct q) p1 p2) (fun q => su_ow (tv 2) (ct q) * 40 + hv 0 q) k) := by simp only [su_nk, hq]; exact if_neg c4
          have hLn : (su_nk fH (fun q => su_od (tv 2) (ct q) p1 p2) (fun q => su_ow (tv 2) (ct q) * 40 + hv 0 q) (k + 1)).length = (su_nk fH (fun q => su_od (tv 2) (ct q) p1 p2) (fun q => su_ow (tv 2) (ct q) * 40 + hv 0 q) k).length + 1 := by rw [hL, su_insl_len]
          refine ih (k + 1) (by omega) kg9 P9 H _ ls ?_ (by rw [hL]; exact su_ins_row rfl hi9 hrow (su_nk_sorted _ _ _ k)) hw (lv_sub hl [0, 2, 3, 4, 5, 6, 7] rfl)
          rw [e9, ePk, hLn, nI_succ, pm_uc nK, pm_uu, pm_uu]
  refine lv_iload_n hx hb dd_C_overdue_0 rfl (lv_at hl 1 rfl) ?_
  refine cx_afterX (cx_rSX (n := 1) (As := [.int p1]) (rest := []) ⟨hx, hb, hml, hown, hg⟩ (c_C_needDay l hT z D ac sa P p1) (cx_gs gm_C_80 gt_C_needDay gn_C gc_C_needDay) (by decide +kernel) ⟨by decide, by decide⟩ hK hw rfl hl.1 rfl (Nat.le_of_ble_eq_true rfl) dd_C_overdue_1 ⟨by decide, by decide⟩) hw (fun E9 ce9 q9 P9 H locs hp hw hce hcv hcl => ?_) (fun v9 P9 H locs hp hw => ?_)
  · skip
    obtain ⟨rfl, e9, n7⟩ := hp
    rw [e9] at hw
    clear e9 P9
    refine cx_pass hout hlocks hce hcv hcl hw ?_ (by decide) (by decide)
    exact ⟨rfl, rfl, fun h9 => n7 h9.1⟩
  · skip
    obtain ⟨rfl, e9, n8⟩ := hp
    rw [e9] at hw
    clear e9 P9
    refine W.eq (g2 := F0 m 4 ls []) rfl ?_
    refine lv_iload_n hx hb dd_C_overdue_4 rfl (lv_at hl 2 rfl) ?_
    refine lv_if_lt (tgt := 15) hx hb dd_C_overdue_5 (by decide) (fun c9 => ?_) (fun c9 => ?_)
    · skip
      refine cx_thrS (E := xn_IOB) (text := "no such number of days") hx hb hT (by rw [hml]; exact hl.1.symm) hown hg hK hw (by decide +kernel) gk_C_132 gn_IndexOutOfBoundsException xg_IOB xb_IOB xo_IOB (by decide +kernel) dd_C_overdue_15 dd_C_overdue_18 dd_C_overdue_19 dd_C_overdue_21 dd_C_overdue_24 hout ⟨by decide, Nat.le_of_ble_eq_true rfl, by decide, by decide⟩ hlocks (by decide) (by decide) ?_
      exact ⟨rfl, rfl, fun h9 => absurd c9 h9.2.1.1⟩
    · skip
      refine lv_iload_n hx hb dd_C_overdue_8 rfl (lv_at hl 2 rfl) ?_
      refine lv_sipush (v := 9999) hx hb dd_C_overdue_9 (by decide) ?_
      refine lv_icmp_le (tgt := 25) hx hb dd_C_overdue_12 (by decide) (fun c10 => ?_) (fun c10 => ?_)
      · skip
        refine lv_iload_n hx hb dd_C_overdue_25 rfl (lv_at hl 3 rfl) ?_
        refine cx_afterX (cx_rSX (n := 1) (As := [.int p3]) (rest := []) ⟨hx, hb, hml, hown, hg⟩ (c_C_needNotBelowZero l hT z D ac sa P p3) (cx_gs gm_C_168 gt_C_needNotBelowZero gn_C gc_C_needNotBelowZero) (by decide +kernel) ⟨by decide, by decide⟩ hK hw rfl hl.1 rfl (Nat.le_of_ble_eq_true rfl) dd_C_overdue_26 ⟨by decide, by decide⟩) hw (fun E9 ce9 q9 P9 H locs hp hw hce hcv hcl => ?_) (fun v9 P9 H locs hp hw => ?_)
        · skip
          obtain ⟨rfl, e9, n11⟩ := hp
          rw [e9] at hw
          clear e9 P9
          refine cx_pass hout hlocks hce hcv hcl hw ?_ (by decide) (by decide)
          exact ⟨rfl, rfl, fun h9 => n11 h9.2.2⟩
        · skip
          obtain ⟨rfl, e9, n12⟩ := hp
          rw [e9] at hw
          clear e9 P9
          refine W.eq (g2 := F0 m 29 ls []) rfl ?_
          refine lv_aload_n hx hb dd_C_overdue_29 rfl (lv_at hl 0 rfl) ?_
          refine pm_get (ci := 0) (C := cn_C) (T := cf_C) (N := 8) (v := .ref aK) hx hb hg gu_C hown hK.2.1 hw f0 rfl 3 (by decide) (hg _ gf_C_28) (fun _ h9 => h9) rfl dd_C_overdue_30 ?_
          refine cx_after (cx_rV (n := 0) (As := []) (rest := []) ⟨hx, hb, hml, hown, hg⟩ (c_K_clear l z D ac sa P aK ak ks kf f2) (cx_gv gm_C_171 gi_K_clear gs_K_clear gn_K gc_K_clear) (by decide +kernel) ⟨by decide, by decide⟩ hK hw f2 rfl rfl hl.1 rfl (Nat.le_of_ble_eq_true rfl) dd_C_overdue_33 ⟨by decide, by decide⟩) hw (fun v9 P9 H locs hp hw => ?_)
          obtain ⟨rfl, e9⟩ := hp
          rw [e9] at hw
          clear e9 P9
          refine W.eq (g2 := F0 m 36 ls []) rfl ?_
          have hw : pm_W z D cl_w (pm_up P aK (.inr (4, [.ref ak, .int 0]))) s.heap H _ := hw
          obtain ⟨P13, eP13⟩ : ∃ q : pm_T, q = pm_up P aK (.inr (4, [.ref ak, .int 0])) := ⟨_, rfl⟩
          rw [← eP13] at hw
          have f14 : P13 h0 = some (.inr (0, [.ref aH, .ref aT, .ref aL, .ref aK, .ref aW, .int nh, .int nt, .int al])) := by rw [eP13, pm_n (pm_ne f0 f2 (by simp))]; exact f0
          have f15 : P13 aH = some (.inl (ac 3, 40, .inr (.inr (.inr (.inr fH))))) := by rw [eP13, pm_n (pm_ne f1 f2 (by simp))]; exact f1
          have f16 : P13 ak = some (.inl (ac 0, 40, .inl kf)) := by rw [eP13, pm_n (pm_ne f3 f2 (by simp))]; exact f3
          have f17 : P13 aK = some (.inr (4, [.ref ak, .int 0])) := by rw [eP13]; exact pm_s
          refine lv_aload_n hx hb dd_C_overdue_36 rfl (lv_at hl 0 rfl) ?_
          refine pm_get (ci := 0) (C := cn_C) (T := cf_C) (N := 8) (v := .ref aH) hx hb hg gu_C hown hK.2.1 hw f14 rfl 0 (by decide) (hg _ gf_C_11) (fun _ h9 => h9) rfl dd_C_overdue_37 ?_
          refine lv_astore (lv' := [(4, .ref aH), (0, .ref h0), (1, .int p1), (2, .int p2), (3, .int p3)]) hx hb dd_C_overdue_40 hl (by decide) rfl (fun ls hl => ?_)
          refine lv_aload hx hb dd_C_overdue_42 (lv_at hl 0 rfl) ?_
          refine pm_alen (v := 40) hx hb hK.2.1 hw 3 f15 rfl rfl dd_C_overdue_44 ?_
          refine lv_istore (lv' := [(5, .int (40 : Int32)), (4, .ref aH), (0, .ref h0), (1, .int p1), (2, .int p2), (3, .int p3)]) hx hb dd_C_overdue_45 hl (by decide) rfl (fun ls hl => ?_)
          refine lv_iconst (v := 0) hx hb dd_C_overdue_47 (by decide) ?_
          refine lv_istore (lv' := [(6, .int (0 : Int32)), (5, .int (40 : Int32)), (4, .ref aH), (0, .ref h0), (1, .int p1), (2, .int p2), (3, .int p3)]) hx hb dd_C_overdue_48 hl (by decide) rfl (fun ls hl => ?_)
          exact lp ⟨n8, ⟨c9, c10⟩, n12⟩ 40 0 (by decide) kf P13 _ _ ls (by rw [eP13, pm_id f3]; rfl) (fun j hj => absurd hj (Nat.not_lt_zero j)) hw (lv_sub hl [0, 1, 2, 3, 4, 5, 6] rfl)
      · skip
        refine cx_thrS (E := xn_IOB) (text := "no such number of days") hx hb hT (by rw [hml]; exact hl.1.symm) hown hg hK hw (by decide +kernel) gk_C_132 gn_IndexOutOfBoundsException xg_IOB xb_IOB xo_IOB (by decide +kernel) dd_C_overdue_15 dd_C_overdue_18 dd_C_overdue_19 dd_C_overdue_21 dd_C_overdue_24 hout ⟨by decide, Nat.le_of_ble_eq_true rfl, by decide, by decide⟩ hlocks (by decide) (by decide) ?_
        exact ⟨rfl, rfl, fun h9 => absurd h9.2.1.2 c10⟩
end
