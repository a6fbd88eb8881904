/-! the law's wrappers: methods with tables -/
def cx_VH (l : Launch) (y : MethodName) (b : ByteArray) (n : Nat) (ret : Option FieldType) (hh : List (Nat × Nat × Nat × Nat)) (rm : Room) (z : Nat) (D : va_G) (ac : Nat → ClassId) (sa : Nat → Nat) (P : pm_T) (av : List Value) (post : Option Value → pm_T → Prop) : Prop := vx_Met l y (Cond.codeWith y b n ret hh :: gw) rm (cx_P z D ac sa P av) (cx_Q z D post) (cx_X z D (fun _ _ => False)) rm.cells rm.slots (pm_A z)
theorem cx_ofVH {l : Launch} {y : MethodName} {b : ByteArray} {n : Nat} {ret : Option FieldType} {hh : List (Nat × Nat × Nat × Nat)} {rm : Room} {z : Nat} {D : va_G} {ac : Nat → ClassId} {sa : Nat → Nat} {P : pm_T} {av : List Value} {post : Option Value → pm_T → Prop} (hy : plainName y.cls = true) (hlen : (lg_sl av).length ≤ n) (body : ∀ (p : Program) (e : Env) (s : State) (m : MethodId) (below : List Frame) (meth : Method) (c : Code) (ls : Array Slot), p.tables.exec = Jvm.exec → c.code = b → meth.sig.returnType = ret → c.maxLocals = n → (∀ w ∈ gw, w.before av.toArray s = true) → s.vm.findClass y.cls = some m.cls → meth.locks = false → c.exceptionTable.toList = tableOf hh → cx_K z D ac sa s → pm_W z D cl_w P s.heap s.heap [] → lv_has ls n (lv_args 0 av) → W p l e rm s m av.toArray below meth c s.heap [] 0 0 (vx_MQ below (cx_Q z D post) (cx_X z D (fun _ _ => False)) av.toArray s rm.cells rm.slots (pm_A z)) (F0 m 0 ls [])) : cx_VH l y b n ret hh rm z D ac sa P av post := by
  refine vx_ofWH (cc := b) (maxL := n) (ret := ret) (hh := hh) hy rfl ?_
  intro p e s m args below meth c s₁ B hml hv
  obtain ⟨rfl, hK, hH⟩ := hv
  have hl := lv_entry av (n := n) hlen
  rw [lg_entry_eq]
  exact body p e s m below meth c _ B.exec B.bytes B.returns hml (fun w h => atoms_spec (ws := Cond.codeWith y b n ret hh :: gw) B.pre w (List.mem_cons_of_mem _ h)) (findClass_of_methodNamed B.named) B.notSynchronized (vx_table (x := y) B (atoms_spec (ws := Cond.codeWith y b n ret hh :: gw) B.pre _ List.mem_cons_self)) hK ⟨hK.1, hH, va_S.rf⟩ hl
section CXH
variable {p : Program} {l : Launch} {e : Env} {R : Room} {s : State} {m : MethodId} {args : Array Value} {below : List Frame} {meth : Method} {c : Code} {H : Heap} {locs : List Loc} {cells slots : Nat} {Q : State → Prop}
variable {cc : ByteArray} {pc : Nat} {ls : Array Slot} {st0 rest : List Value} {D : va_G} {z : Nat} {ac : Nat → ClassId} {sa : Nat → Nat} {P : pm_T} {post : Option Value → pm_T → Prop}
variable {nL idx n maxL : Nat} {own : String} {y : MethodName} {bytes : ByteArray} {ret : Option FieldType} {rm : Room} {As : List Value} {hh : List (Nat × Nat × Nat × Nat)}
theorem cx_rSH (S : p.tables.exec = Jvm.exec ∧ c.code = cc ∧ c.maxLocals = nL ∧ s.vm.findClass own = some m.cls ∧ ∀ w ∈ gw, w.before args s = true) (hM : cx_VH l y bytes maxL ret hh rm z D ac sa P As post)
    (h5 : Cond.codeWith y bytes maxL ret hh ∈ gw) (h1 : Cond.methodLink own idx y ∈ gw) (h2 : Cond.static y ∈ gw) (h4 : Cond.initialized y.cls ∈ gw) (hd : y.cls ≠ "java/lang/invoke/MethodHandle" ∧ y.cls ≠ "java/lang/invoke/VarHandle" ∧ (parseMethodDescriptor y.desc).map (fun d => d.parameters.length) = some n) (hR : rm.frames + 1 ≤ R.frames ∧ 8 + (maxL + 11) + rm.locals ≤ R.locals)
    (hK : cx_K z D ac sa s) (hw : pm_W z D cl_w P s.heap H locs) (hn : As.length = n) (hls : ls.size = nL) (hst : st0 = As.reverse ++ rest) (hrest : (rest.map fun v => v.category).sum ≤ 8) (hdg : decode cc pc = .ok (.invokestatic idx, 3)) (hf : cells + rm.cells ≤ R.cells ∧ slots + rm.slots ≤ R.slots) :
    vx_Run p l e R s m args below meth c H locs cells slots rm.cells rm.slots (F0 m pc ls st0) rest (cx_Q z D post As.toArray) (cx_X z D (fun _ _ => False)) (pm_A z) := by
  have g : GoodIn gw (va_wsS own idx y (Cond.codeWith y bytes maxL ret hh :: gw)) := by
    intro w hw
    unfold va_wsS at hw
    rcases List.mem_append.mp hw with h | h
    · simp only [List.mem_cons, List.not_mem_nil, or_false] at h
      rcases h with rfl | rfl | rfl
      · exact cx_good h1
      · exact cx_good h2
      · exact cx_good h4
    · exact cx_gi h5 w h
  exact vx_runSX S hM (vx_cwSW n S.2.2.2.2 g rfl rfl rfl hd hR) ⟨cx_blind, cx_pre hK hw⟩ rfl hn hls hst (lv_room hrest) hdg hf
end CXH
theorem cx_cast {args : Array Value} {s : State} {z : Nat} {D : va_G} {ac : Nat → ClassId} {sa : Nat → Nat} {E : String} (hK : cx_K z D ac sa s) (h : Cond.castable E E ∈ ow_w) : (Cond.castable E E).before args s = true := va_Nw.use (ow_tab h) (hK.2.2.2.1 _ h)

theorem gch_L_hydrant : Cond.codeWith yy_L_hydrant bb_L_hydrant 7 (some .int) [(0, 14, 17, 13), (0, 14, 21, 15), (0, 14, 25, 17)] ∈ gw := gw_1 (List.mem_of_getElem? (i := 97) (by decide +kernel)) rfl
theorem gch_L_limit : Cond.codeWith yy_L_limit bb_L_limit 4 (some .int) [(0, 6, 9, 13), (0, 6, 12, 15)] ∈ gw := gw_2 (List.mem_of_getElem? (i := 30) (by decide +kernel)) rfl
theorem gch_L_test : Cond.codeWith yy_L_test bb_L_test 8 (some .int) [(0, 16, 19, 13), (0, 16, 23, 15), (0, 16, 27, 27), (0, 16, 31, 17)] ∈ gw := gw_2 (List.mem_of_getElem? (i := 41) (by decide +kernel)) rfl
theorem gch_L_flow : Cond.codeWith yy_L_flow bb_L_flow 6 (some .int) [(0, 12, 15, 13), (0, 12, 19, 15), (0, 12, 23, 27), (0, 12, 27, 33)] ∈ gw := gw_2 (List.mem_of_getElem? (i := 115) (by decide +kernel)) rfl
theorem gch_L_sort : Cond.codeWith yy_L_sort bb_L_sort 4 (some .int) [(0, 9, 12, 13), (0, 9, 15, 27), (0, 9, 18, 33)] ∈ gw := gw_2 (List.mem_of_getElem? (i := 166) (by decide +kernel)) rfl
theorem gch_L_defect : Cond.codeWith yy_L_defect bb_L_defect 4 (some .int) [(0, 6, 9, 13), (0, 6, 12, 15)] ∈ gw := gw_2 (List.mem_of_getElem? (i := 181) (by decide +kernel)) rfl
theorem gch_L_works : Cond.codeWith yy_L_works bb_L_works 5 (some .int) [(0, 7, 10, 13), (0, 7, 14, 15), (0, 7, 18, 27), (0, 7, 22, 17)] ∈ gw := gw_2 (List.mem_of_getElem? (i := 189) (by decide +kernel)) rfl
theorem gch_L_season : Cond.codeWith yy_L_season bb_L_season 5 (some .int) [(0, 7, 10, 13), (0, 7, 14, 15), (0, 7, 18, 27)] ∈ gw := gw_2 (List.mem_of_getElem? (i := 223) (by decide +kernel)) rfl
theorem gch_L_usable : Cond.codeWith yy_L_usable bb_L_usable 5 (some .int) [(0, 17, 20, 13), (0, 17, 24, 15)] ∈ gw := gw_2 (List.mem_of_getElem? (i := 236) (by decide +kernel)) rfl
theorem gch_L_near : Cond.codeWith yy_L_near bb_L_near 7 (some .int) [(0, 14, 17, 15)] ∈ gw := gw_3 (List.mem_of_getElem? (i := 12) (by decide +kernel)) rfl
theorem gch_L_both : Cond.codeWith yy_L_both bb_L_both 6 (some .int) [(0, 12, 15, 13), (0, 12, 19, 15), (0, 12, 23, 27), (0, 12, 27, 33)] ∈ gw := gw_3 (List.mem_of_getElem? (i := 45) (by decide +kernel)) rfl
theorem gch_L_supply : Cond.codeWith yy_L_supply bb_L_supply 8 (some .int) [(0, 16, 19, 15)] ∈ gw := gw_3 (List.mem_of_getElem? (i := 57) (by decide +kernel)) rfl
theorem gch_L_round : Cond.codeWith yy_L_round bb_L_round 6 (some .int) [(0, 11, 14, 13), (0, 11, 18, 15)] ∈ gw := gw_3 (List.mem_of_getElem? (i := 75) (by decide +kernel)) rfl
theorem gch_L_stop : Cond.codeWith yy_L_stop bb_L_stop 4 (some .int) [(0, 9, 12, 15)] ∈ gw := gw_3 (List.mem_of_getElem? (i := 114) (by decide +kernel)) rfl
theorem gch_L_overdue : Cond.codeWith yy_L_overdue bb_L_overdue 6 (some .int) [(0, 12, 15, 15)] ∈ gw := gw_3 (List.mem_of_getElem? (i := 125) (by decide +kernel)) rfl
theorem gch_L_testAt : Cond.codeWith yy_L_testAt bb_L_testAt 5 (some .int) [(0, 10, 13, 13)] ∈ gw := gw_3 (List.mem_of_getElem? (i := 141) (by decide +kernel)) rfl
theorem gch_L_hydrantAt : Cond.codeWith yy_L_hydrantAt bb_L_hydrantAt 5 (some .int) [(0, 10, 13, 13)] ∈ gw := gw_3 (List.mem_of_getElem? (i := 149) (by decide +kernel)) rfl
set_option maxHeartbeats 4000000 in
set_option maxRecDepth 100000 in
theorem w_hydrant (l : Launch) (z : Nat) (D : va_G) (ac : Nat → ClassId) (sa : Nat → Nat) (P : pm_T) (h0 ao : Nat) (fs : List Value) (p1 : Int32) (p2 : Int32) (p3 : Int32) (p4 : Int32) (post : Option Value → pm_T → Prop) (xp : String → pm_T → Prop) (hC : cx_V l yy_C_hydrant bb_C_hydrant 6 (some .int) ({ frames := 7, cells := 5, slots := 35, locals := 140 } : Room) z D ac sa P [.ref h0, .int p1, .int p2, .int p3, .int p4] post xp) (hpo : ∀ v P1, post v P1 → ∃ (r : Int32) (fo : Nat → Int64), v = some (.int r) ∧ P1 ao = some (.inl (ac 1, 1, .inr (.inl fo)))) (hxo : ∀ E P1, xp E P1 → E = xn_IAE ∨ E = xn_IOB ∨ E = xn_UOE) (f0 : P h0 = some (.inr (0, fs))) : cx_VH l yy_L_hydrant bb_L_hydrant 7 (some .int) [(0, 14, 17, 13), (0, 14, 21, 15), (0, 14, 25, 17)] ({ frames := 8, cells := 5, slots := 35, locals := 165 } : Room) z D ac sa P [.ref h0, .int p1, .int p2, .int p3, .int p4, .ref ao] (fun v P' => (∃ (r : Int32) (P1 : pm_T) (fo : Nat → Int64), post (some (.int r)) P1 ∧ P1 ao = some (.inl (ac 1, 1, .inr (.inl fo))) ∧ v = some (.int 0) ∧ P' = pm_up P1 ao (.inl (ac 1, 1, .inr (.inl (vp_updL fo 0 r.toInt64))))) ∨ (xp xn_IAE P' ∧ v = some (.int 1)) ∨ (xp xn_IOB P' ∧ v = some (.int 2)) ∨ (xp xn_UOE P' ∧ v = some (.int 3))) := by
  refine cx_ofVH (by decide) (Nat.le_of_ble_eq_true rfl) (fun p e s m below meth c ls hx hb hr hml hg hown hlocks htab hK hw hl => ?_)
  have hl : lv_has ls 7 [(0, .ref h0), (1, .int p1), (2, .int p2), (3, .int p3), (4, .int p4), (5, .ref ao)] := hl
  have hown : s.vm.findClass cn_L = some m.cls := hown
  refine lv_aload hx hb dd_L_hydrant_0 (lv_at hl 5 rfl) ?_
  refine lv_iconst (v := 0) hx hb dd_L_hydrant_2 (by decide) ?_
  refine lv_aload_n hx hb dd_L_hydrant_3 rfl (lv_at hl 0 rfl) ?_
  refine lv_iload_n hx hb dd_L_hydrant_4 rfl (lv_at hl 1 rfl) ?_
  refine lv_iload_n hx hb dd_L_hydrant_5 rfl (lv_at hl 2 rfl) ?_
  refine lv_iload_n hx hb dd_L_hydrant_6 rfl (lv_at hl 3 rfl) ?_
  refine lv_iload hx hb dd_L_hydrant_7 (lv_at hl 4 rfl) ?_
  refine cx_afterX (cx_rVX (n := 4) (As := [.int p1, .int p2, .int p3, .int p4]) (rest := [.int (0 : Int32), .ref ao]) ⟨hx, hb, hml, hown, hg⟩ (hC) (cx_gv gm_L_7 gi_C_hydrant gs_C_hydrant gn_C gc_C_hydrant) (by decide +kernel) ⟨by decide, by decide⟩ hK hw f0 rfl rfl hl.1 rfl (Nat.le_of_ble_eq_true rfl) dd_L_hydrant_9 ⟨by decide, by decide⟩) hw (fun E9 ce9 q9 P9 H locs hp hw hce hcv hcl => ?_) (fun v9 P9 H locs hp hw => ?_)
  · skip
    rcases hxo _ _ hp with rfl | rfl | rfl
    · refine vx_catch (own := cn_L) (name := xn_IAE) hown [] ⟨0, 14, 17, 13⟩ [⟨0, 14, 21, 15⟩, ⟨0, 14, 25, 17⟩] (by rw [htab]; rfl) (fun _ h => nomatch h) (by decide) (by decide) (hg _ gk_L_13) (cx_cast hK (by decide +kernel)) hce hcv hcl ?_
      refine W.eq (g2 := F0 m 17 ls [.ref q9]) rfl ?_
      refine lv_astore (lv' := [(6, .ref q9), (0, .ref h0), (1, .int p1), (2, .int p2), (3, .int p3), (4, .int p4), (5, .ref ao)]) hx hb dd_L_hydrant_17 hl (by decide) rfl (fun ls hl => ?_)
      refine lv_iconst (v := 1) hx hb dd_L_hydrant_19 (by decide) ?_
      refine vx_ret (cx_iret (v := (1 : Int32)) hx hb hr rfl hlocks hw dd_L_hydrant_20 (by decide) (by decide) ?_)
      exact .inr (.inl ⟨hp, rfl⟩)
    · refine vx_catch (own := cn_L) (name := xn_IOB) hown [⟨0, 14, 17, 13⟩] ⟨0, 14, 21, 15⟩ [⟨0, 14, 25, 17⟩] (by rw [htab]; rfl) (List.forall_mem_cons.mpr ⟨.inr ⟨by decide, xn_IAE, hg _ gk_L_13, hK.2.2.2.2.1 _ (by decide +kernel : (xn_IOB, xn_IAE) ∈ nc_w)⟩, fun _ h => nomatch h⟩) (by decide) (by decide) (hg _ gk_L_15) (cx_cast hK (by decide +kernel)) hce hcv hcl ?_
      refine W.eq (g2 := F0 m 21 ls [.ref q9]) rfl ?_
      refine lv_astore (lv' := [(6, .ref q9), (0, .ref h0), (1, .int p1), (2, .int p2), (3, .int p3), (4, .int p4), (5, .ref ao)]) hx hb dd_L_hydrant_21 hl (by decide) rfl (fun ls hl => ?_)
      refine lv_iconst (v := 2) hx hb dd_L_hydrant_23 (by decide) ?_
      refine vx_ret (cx_iret (v := (2 : Int32)) hx hb hr rfl hlocks hw dd_L_hydrant_24 (by decide) (by decide) ?_)
      exact .inr (.inr (.inl ⟨hp, rfl⟩))
    · refine vx_catch (own := cn_L) (name := xn_UOE) hown [⟨0, 14, 17, 13⟩, ⟨0, 14, 21, 15⟩] ⟨0, 14, 25, 17⟩ [] (by rw [htab]; rfl) (List.forall_mem_cons.mpr ⟨.inr ⟨by decide, xn_IAE, hg _ gk_L_13, hK.2.2.2.2.1 _ (by decide +kernel : (xn_UOE, xn_IAE) ∈ nc_w)⟩, List.forall_mem_cons.mpr ⟨.inr ⟨by decide, xn_IOB, hg _ gk_L_15, hK.2.2.2.2.1 _ (by decide +kernel : (xn_UOE, xn_IOB) ∈ nc_w)⟩, fun _ h => nomatch h⟩⟩) (by decide) (by decide) (hg _ gk_L_17) (cx_cast hK (by decide +kernel)) hce hcv hcl ?_
      refine W.eq (g2 := F0 m 25 ls [.ref q9]) rfl ?_
      refine lv_astore (lv' := [(6, .ref q9), (0, .ref h0), (1, .int p1), (2, .int p2), (3, .int p3), (4, .int p4), (5, .ref ao)]) hx hb dd_L_hydrant_25 hl (by decide) rfl (fun ls hl => ?_)
      refine lv_iconst (v := 3) hx hb dd_L_hydrant_27 (by decide) ?_
      refine vx_ret (cx_iret (v := (3 : Int32)) hx hb hr rfl hlocks hw dd_L_hydrant_28 (by decide) (by decide) ?_)
      exact .inr (.inr (.inr (⟨hp, rfl⟩)))
  · skip
    obtain ⟨r, fo, rfl, fo9⟩ := hpo _ _ hp
    refine W.eq (g2 := F0 m 12 ls [.int r, .int (0 : Int32), .ref ao]) rfl ?_
    refine lv_i2l hx hb dd_L_hydrant_12 rfl ?_
    refine pm_last (x := (r).toInt64) hx hb hK.2.1 hw 1 fo9 rfl (show vp_in (0 : Int32) 1 from vp_in_nI (n := 0) (by decide) (by decide)) dd_L_hydrant_13 (fun H locs hw => ?_)
    have hw : pm_W z D cl_w (pm_up P9 ao (.inl (ac 1, 1, .inr (.inl (vp_updL fo ((0 : Int32).toNatClampNeg) ((r).toInt64)))))) s.heap H _ := hw
    obtain ⟨P1, eP1⟩ : ∃ pmv : pm_T, pmv = pm_up P9 ao (.inl (ac 1, 1, .inr (.inl (vp_updL fo ((0 : Int32).toNatClampNeg) ((r).toInt64))))) := ⟨_, rfl⟩
    rw [← eP1] at hw
    have f2 : P1 ao = some (.inl (ac 1, 1, .inr (.inl (vp_updL fo ((0 : Int32).toNatClampNeg) ((r).toInt64))))) := by rw [eP1]; exact pm_s
    refine lv_goto (tgt := 29) hx hb dd_L_hydrant_14 (by decide) ?_
    refine lv_iconst (v := 0) hx hb dd_L_hydrant_29 (by decide) ?_
    refine vx_ret (cx_iret (v := (0 : Int32)) hx hb hr rfl hlocks hw dd_L_hydrant_30 (by decide) (by decide) ?_)
    exact .inl ⟨r, P9, fo, hp, fo9, rfl, by rw [eP1]; rfl⟩

set_option maxHeartbeats 4000000 in
set_option maxRecDepth 100000 in
theorem w_limit (l : Launch) (z : Nat) (D : va_G) (ac : Nat → ClassId) (sa : Nat → Nat) (P : pm_T) (h0 : Nat) (fs : List Value) (p1 : Int32) (p2 : Int32) (post : Option Value → pm_T → Prop) (xp : String → pm_T → Prop) (hC : cx_V l yy_C_limit bb_C_limit 3 none ({ frames := 7, cells := 2, slots := 12, locals := 138 } : Room) z D ac sa P [.ref h0, .int p1, .int p2] post xp) (hpo : ∀ v P1, post v P1 → v = none) (hxo : ∀ E P1, xp E P1 → E = xn_IAE ∨ E = xn_IOB) (f0 : P h0 = some (.inr (0, fs))) : cx_VH l yy_L_limit bb_L_limit 4 (some .int) [(0, 6, 9, 13), (0, 6, 12, 15)] ({ frames := 8, cells := 2, slots := 12, locals := 160 } : Room) z D ac sa P [.ref h0, .int p1, .int p2] (fun v P' => (post none P' ∧ v = some (.int 0)) ∨ (xp xn_IAE P' ∧ v = some (.int 1)) ∨ (xp xn_IOB P' ∧ v = some (.int 2))) := by
  refine cx_ofVH (by decide) (Nat.le_of_ble_eq_true rfl) (fun p e s m below meth c ls hx hb hr hml hg hown hlocks htab hK hw hl => ?_)
  have hl : lv_has ls 4 [(0, .ref h0), (1, .int p1), (2, .int p2)] := hl
  have hown : s.vm.findClass cn_L = some m.cls := hown
  refine lv_aload_n hx hb dd_L_limit_0 rfl (lv_at hl 0 rfl) ?_
  refine lv_iload_n hx hb dd_L_limit_1 rfl (lv_at hl 1 rfl) ?_
  refine lv_iload_n hx hb dd_L_limit_2 rfl (lv_at hl 2 rfl) ?_
  refine cx_afterX (cx_rVX (n := 2) (As := [.int p1, .int p2]) (rest := []) ⟨hx, hb, hml, hown, hg⟩ (hC) (cx_gv gm_L_19 gi_C_limit gs_C_limit gn_C gc_C_limit) (by decide +kernel) ⟨by decide, by decide⟩ hK hw f0 rfl rfl hl.1 rfl (Nat.le_of_ble_eq_true rfl) dd_L_limit_3 ⟨by decide, by decide⟩) hw (fun E9 ce9 q9 P9 H locs hp hw hce hcv hcl => ?_) (fun v9 P9 H locs hp hw => ?_)
  · skip
    rcases hxo _ _ hp with rfl | rfl
    · refine vx_catch (own := cn_L) (name := xn_IAE) hown [] ⟨0, 6, 9, 13⟩ [⟨0, 6, 12, 15⟩] (by rw [htab]; rfl) (fun _ h => nomatch h) (by decide) (by decide) (hg _ gk_L_13) (cx_cast hK (by decide +kernel)) hce hcv hcl ?_
      refine W.eq (g2 := F0 m 9 ls [.ref q9]) rfl ?_
      refine lv_astore_n (lv' := [(3, .ref q9), (0, .ref h0), (1, .int p1), (2, .int p2)]) hx hb dd_L_limit_9 rfl hl (by decide) rfl (fun ls hl => ?_)
      refine lv_iconst (v := 1) hx hb dd_L_limit_10 (by decide) ?_
      refine vx_ret (cx_iret (v := (1 : Int32)) hx hb hr rfl hlocks hw dd_L_limit_11 (by decide) (by decide) ?_)
      exact .inr (.inl ⟨hp, rfl⟩)
    · refine vx_catch (own := cn_L) (name := xn_IOB) hown [⟨0, 6, 9, 13⟩] ⟨0, 6, 12, 15⟩ [] (by rw [htab]; rfl) (List.forall_mem_cons.mpr ⟨.inr ⟨by decide, xn_IAE, hg _ gk_L_13, hK.2.2.2.2.1 _ (by decide +kernel : (xn_IOB, xn_IAE) ∈ nc_w)⟩, fun _ h => nomatch h⟩) (by decide) (by decide) (hg _ gk_L_15) (cx_cast hK (by decide +kernel)) hce hcv hcl ?_
      refine W.eq (g2 := F0 m 12 ls [.ref q9]) rfl ?_
      refine lv_astore_n (lv' := [(3, .ref q9), (0, .ref h0), (1, .int p1), (2, .int p2)]) hx hb dd_L_limit_12 rfl hl (by decide) rfl (fun ls hl => ?_)
      refine lv_iconst (v := 2) hx hb dd_L_limit_13 (by decide) ?_
      refine vx_ret (cx_iret (v := (2 : Int32)) hx hb hr rfl hlocks hw dd_L_limit_14 (by decide) (by decide) ?_)
      exact .inr (.inr (⟨hp, rfl⟩))
  · skip
    have e9 := hpo _ _ hp
    subst e9
    refine W.eq (g2 := F0 m 6 ls []) rfl ?_
    refine lv_goto (tgt := 15) hx hb dd_L_limit_6 (by decide) ?_
    refine lv_iconst (v := 0) hx hb dd_L_limit_15 (by decide) ?_
    refine vx_ret (cx_iret (v := (0 : Int32)) hx hb hr rfl hlocks hw dd_L_limit_16 (by decide) (by decide) ?_)
    exact .inl ⟨hp, rfl⟩

set_option maxHeartbeats 4000000 in
set_option maxRecDepth 100000 in
theorem w_test (l : Launch) (z : Nat) (D : va_G) (ac : Nat → ClassId) (sa : Nat → Nat) (P : pm_T) (h0 ao : Nat) (fs : List Value) (p1 : Int32) (p2 : Int32) (p3 : Int32) (p4 : Int32) (p5 : Int32) (post : Option Value → pm_T → Prop) (xp : String → pm_T → Prop) (hC : cx_V l yy_C_test bb_C_test 9 (some .int) ({ frames := 7, cells := 9, slots := 50, locals := 150 } : Room) z D ac sa P [.ref h0, .int p1, .int p2, .int p3, .int p4, .int p5] post xp) (hpo : ∀ v P1, post v P1 → ∃ (r : Int32) (fo : Nat → Int64), v = some (.int r) ∧ P1 ao = some (.inl (ac 1, 1, .inr (.inl fo)))) (hxo : ∀ E P1, xp E P1 → E = xn_IAE ∨ E = xn_IOB ∨ E = xn_ISE ∨ E = xn_UOE) (f0 : P h0 = some (.inr (0, fs))) : cx_VH l yy_L_test bb_L_test 8 (some .int) [(0, 16, 19, 13), (0, 16, 23, 15), (0, 16, 27, 27), (0, 16, 31, 17)] ({ frames := 8, cells := 9, slots := 50, locals := 178 } : Room) z D ac sa P [.ref h0, .int p1, .int p2, .int p3, .int p4, .int p5, .ref ao] (fun v P' => (∃ (r : Int32) (P1 : pm_T) (fo : Nat → Int64), post (some (.int r)) P1 ∧ P1 ao = some (.inl (ac 1, 1, .inr (.inl fo))) ∧ v = some (.int 0) ∧ P' = pm_up P1 ao (.inl (ac 1, 1, .inr (.inl (vp_updL fo 0 r.toInt64))))) ∨ (xp xn_IAE P' ∧ v = some (.int 1)) ∨ (xp xn_IOB P' ∧ v = some (.int 2)) ∨ (xp xn_ISE P' ∧ v = some (.int 3)) ∨ (xp xn_UOE P' ∧ v = some (.int 4))) := by
  refine cx_ofVH (by decide) (Nat.le_of_ble_eq_true rfl) (fun p e s m below meth c ls hx hb hr hml hg hown hlocks htab hK hw hl => ?_)
  have hl : lv_has ls 8 [(0, .ref h0), (1, .int p1), (2, .int p2), (3, .int p3), (4, .int p4), (5, .int p5), (6, .ref ao)] := hl
  have hown : s.vm.findClass cn_L = some m.cls := hown
  refine lv_aload hx hb dd_L_test_0 (lv_at hl 6 rfl) ?_
  refine lv_iconst (v := 0) hx hb dd_L_test_2 (by decide) ?_
  refine lv_aload_n hx hb dd_L_test_3 rfl (lv_at hl 0 rfl) ?_
  refine lv_iload_n hx hb dd_L_test_4 rfl (lv_at hl 1 rfl) ?_
  refine lv_iload_n hx hb dd_L_test_5 rfl (lv_at hl 2 rfl) ?_
  refine lv_iload_n hx hb dd_L_test_6 rfl (lv_at hl 3 rfl) ?_
  refine lv_iload hx hb dd_L_test_7 (lv_at hl 4 rfl) ?_
  refine lv_iload hx hb dd_L_test_9 (lv_at hl 5 rfl) ?_
  refine cx_afterX (cx_rVX (n := 5) (As := [.int p1, .int p2, .int p3, .int p4, .int p5]) (rest := [.int (0 : Int32), .ref ao]) ⟨hx, hb, hml, hown, hg⟩ (hC) (cx_gv gm_L_23 gi_C_test gs_C_test gn_C gc_C_test) (by decide +kernel) ⟨by decide, by decide⟩ hK hw f0 rfl rfl hl.1 rfl (Nat.le_of_ble_eq_true rfl) dd_L_test_11 ⟨by decide, by decide⟩) hw (fun E9 ce9 q9 P9 H locs hp hw hce hcv hcl => ?_) (fun v9 P9 H locs hp hw => ?_)
  · skip
    rcases hxo _ _ hp with rfl | rfl | rfl | rfl
    · refine vx_catch (own := cn_L) (name := xn_IAE) hown [] ⟨0, 16, 19, 13⟩ [⟨0, 16, 23, 15⟩, ⟨0, 16, 27, 27⟩, ⟨0, 16, 31, 17⟩] (by rw [htab]; rfl) (fun _ h => nomatch h) (by decide) (by decide) (hg _ gk_L_13) (cx_cast hK (by decide +kernel)) hce hcv hcl ?_
      refine W.eq (g2 := F0 m 19 ls [.ref q9]) rfl ?_
      refine lv_astore (lv' := [(7, .ref q9), (0, .ref h0), (1, .int p1), (2, .int p2), (3, .int p3), (4, .int p4), (5, .int p5), (6, .ref ao)]) hx hb dd_L_test_19 hl (by decide) rfl (fun ls hl => ?_)
      refine lv_iconst (v := 1) hx hb dd_L_test_21 (by decide) ?_
      refine vx_ret (cx_iret (v := (1 : Int32)) hx hb hr rfl hlocks hw dd_L_test_22 (by decide) (by decide) ?_)
      exact .inr (.inl ⟨hp, rfl⟩)
    · refine vx_catch (own := cn_L) (name := xn_IOB) hown [⟨0, 16, 19, 13⟩] ⟨0, 16, 23, 15⟩ [⟨0, 16, 27, 27⟩, ⟨0, 16, 31, 17⟩] (by rw [htab]; rfl) (List.forall_mem_cons.mpr ⟨.inr ⟨by decide, xn_IAE, hg _ gk_L_13, hK.2.2.2.2.1 _ (by decide +kernel : (xn_IOB, xn_IAE) ∈ nc_w)⟩, fun _ h => nomatch h⟩) (by decide) (by decide) (hg _ gk_L_15) (cx_cast hK (by decide +kernel)) hce hcv hcl ?_
      refine W.eq (g2 := F0 m 23 ls [.ref q9]) rfl ?_
      refine lv_astore (lv' := [(7, .ref q9), (0, .ref h0), (1, .int p1), (2, .int p2), (3, .int p3), (4, .int p4), (5, .int p5), (6, .ref ao)]) hx hb dd_L_test_23 hl (by decide) rfl (fun ls hl => ?_)
      refine lv_iconst (v := 2) hx hb dd_L_test_25 (by decide) ?_
      refine vx_ret (cx_iret (v := (2 : Int32)) hx hb hr rfl hlocks hw dd_L_test_26 (by decide) (by decide) ?_)
      exact .inr (.inr (.inl ⟨hp, rfl⟩))
    · refine vx_catch (own := cn_L) (name := xn_ISE) hown [⟨0, 16, 19, 13⟩, ⟨0, 16, 23, 15⟩] ⟨0, 16, 27, 27⟩ [⟨0, 16, 31, 17⟩] (by rw [htab]; rfl) (List.forall_mem_cons.mpr ⟨.inr ⟨by decide, xn_IAE, hg _ gk_L_13, hK.2.2.2.2.1 _ (by decide +kernel : (xn_ISE, xn_IAE) ∈ nc_w)⟩, List.forall_mem_cons.mpr ⟨.inr ⟨by decide, xn_IOB, hg _ gk_L_15, hK.2.2.2.2.1 _ (by decide +kernel : (xn_ISE, xn_IOB) ∈ nc_w)⟩, fun _ h => nomatch h⟩⟩) (by decide) (by decide) (hg _ gk_L_27) (cx_cast hK (by decide +kernel)) hce hcv hcl ?_
      refine W.eq (g2 := F0 m 27 ls [.ref q9]) rfl ?_
      refine lv_astore (lv' := [(7, .ref q9), (0, .ref h0), (1, .int p1), (2, .int p2), (3, .int p3), (4, .int p4), (5, .int p5), (6, .ref ao)]) hx hb dd_L_test_27 hl (by decide) rfl (fun ls hl => ?_)
      refine lv_iconst (v := 3) hx hb dd_L_test_29 (by decide) ?_
      refine vx_ret (cx_iret (v := (3 : Int32)) hx hb hr rfl hlocks hw dd_L_test_30 (by decide) (by decide) ?_)
      exact .inr (.inr (.inr (.inl ⟨hp, rfl⟩)))
    · refine vx_catch (own := cn_L) (name := xn_UOE) hown [⟨0, 16, 19, 13⟩, ⟨0, 16, 23, 15⟩, ⟨0, 16, 27, 27⟩] ⟨0, 16, 31, 17⟩ [] (by rw [htab]; rfl) (List.forall_mem_cons.mpr ⟨.inr ⟨by decide, xn_IAE, hg _ gk_L_13, hK.2.2.2.2.1 _ (by decide +kernel : (xn_UOE, xn_IAE) ∈ nc_w)⟩, List.forall_mem_cons.mpr ⟨.inr ⟨by decide, xn_IOB, hg _ gk_L_15, hK.2.2.2.2.1 _ (by decide +kernel : (xn_UOE, xn_IOB) ∈ nc_w)⟩, List.forall_mem_cons.mpr ⟨.inr ⟨by decide, xn_ISE, hg _ gk_L_27, hK.2.2.2.2.1 _ (by decide +kernel : (xn_UOE, xn_ISE) ∈ nc_w)⟩, fun _ h => nomatch h⟩⟩⟩) (by decide) (by decide) (hg _ gk_L_17) (cx_cast hK (by decide +kernel)) hce hcv hcl ?_
      refine W.eq (g2 := F0 m 31 ls [.ref q9]) rfl ?_
      refine lv_astore (lv' := [(7, .ref q9), (0, .ref h0), (1, .int p1), (2, .int p2), (3, .int p3), (4, .int p4), (5, .int p5), (6, .ref ao)]) hx hb dd_L_test_31 hl (by decide) rfl (fun ls hl => ?_)
      refine lv_iconst (v := 4) hx hb dd_L_test_33 (by decide) ?_
      refine vx_ret (cx_iret (v := (4 : Int32)) hx hb hr rfl hlocks hw dd_L_test_34 (by decide) (by decide) ?_)
      exact .inr (.inr (.inr (.inr (⟨hp, rfl⟩))))
  · skip
    obtain ⟨r, fo, rfl, fo9⟩ := hpo _ _ hp
    refine W.eq (g2 := F0 m 14 ls [.int r, .int (0 : Int32), .ref ao]) rfl ?_
    refine lv_i2l hx hb dd_L_test_14 rfl ?_
    refine pm_last (x := (r).toInt64) hx hb hK.2.1 hw 1 fo9 rfl (show vp_in (0 : Int32) 1 from vp_in_nI (n := 0) (by decide) (by decide)) dd_L_test_15 (fun H locs hw => ?_)
    have hw : pm_W z D cl_w (pm_up P9 ao (.inl (ac 1, 1, .inr (.inl (vp_updL fo ((0 : Int32).toNatClampNeg) ((r).toInt64)))))) s.heap H _ := hw
    obtain ⟨P1, eP1⟩ : ∃ pmv : pm_T, pmv = pm_up P9 ao (.inl (ac 1, 1, .inr (.inl (vp_updL fo ((0 : Int32).toNatClampNeg) ((r).toInt64))))) := ⟨_, rfl⟩
    rw [← eP1] at hw
    have f2 : P1 ao = some (.inl (ac 1, 1, .inr (.inl (vp_updL fo ((0 : Int32).toNatClampNeg) ((r).toInt64))))) := by rw [eP1]; exact pm_s
    refine lv_goto (tgt := 35) hx hb dd_L_test_16 (by decide) ?_
    refine lv_iconst (v := 0) hx hb dd_L_test_35 (by decide) ?_
    refine vx_ret (cx_iret (v := (0 : Int32)) hx hb hr rfl hlocks hw dd_L_test_36 (by decide) (by decide) ?_)
    exact .inl ⟨r, P9, fo, hp, fo9, rfl, by rw [eP1]; rfl⟩

set_option maxHeartbeats 4000000 in
set_option maxRecDepth 100000 in
theorem w_flow (l : Launch) (z : Nat) (D : va_G) (ac : Nat → ClassId) (sa : Nat → Nat) (P : pm_T) (h0 ao : Nat) (fs : List Value) (p1 : Int32) (p2 : Int32) (p3 : Int32) (post : Option Value → pm_T → Prop) (xp : String → pm_T → Prop) (hC : cx_V l yy_C_flow bb_C_flow 8 (some .int) ({ frames := 7, cells := 5, slots := 30, locals := 138 } : Room) z D ac sa P [.ref h0, .int p1, .int p2, .int p3] post xp) (hpo : ∀ v P1, post v P1 → ∃ (r : Int32) (fo : Nat → Int64), v = some (.int r) ∧ P1 ao = some (.inl (ac 1, 1, .inr (.inl fo)))) (hxo : ∀ E P1, xp E P1 → E = xn_IAE ∨ E = xn_IOB ∨ E = xn_ISE ∨ E = xn_ARE) (f0 : P h0 = some (.inr (0, fs))) : cx_VH l yy_L_flow bb_L_flow 6 (some .int) [(0, 12, 15, 13), (0, 12, 19, 15), (0, 12, 23, 27), (0, 12, 27, 33)] ({ frames := 8, cells := 5, slots := 30, locals := 165 } : Room) z D ac sa P [.ref h0, .int p1, .int p2, .int p3, .ref ao] (fun v P' => (∃ (r : Int32) (P1 : pm_T) (fo : Nat → Int64), post (some (.int r)) P1 ∧ P1 ao = some (.inl (ac 1, 1, .inr (.inl fo))) ∧ v = some (.int 0) ∧ P' = pm_up P1 ao (.inl (ac 1, 1, .inr (.inl (vp_updL fo 0 r.toInt64))))) ∨ (xp xn_IAE P' ∧ v = some (.int 1)) ∨ (xp xn_IOB P' ∧ v = some (.int 2)) ∨ (xp xn_ISE P' ∧ v = some (.int 3)) ∨ (xp xn_ARE P' ∧ v = some (.int 4))) := by
  refine cx_ofVH (by decide) (Nat.le_of_ble_eq_true rfl) (fun p e s m below meth c ls hx hb hr hml hg hown hlocks htab hK hw hl => ?_)
  have hl : lv_has ls 6 [(0, .ref h0), (1, .int p1), (2, .int p2), (3, .int p3), (4, .ref ao)] := hl
  have hown : s.vm.findClass cn_L = some m.cls := hown
  refine lv_aload hx hb dd_L_flow_0 (lv_at hl 4 rfl) ?_
  refine lv_iconst (v := 0) hx hb dd_L_flow_2 (by decide) ?_
  refine lv_aload_n hx hb dd_L_flow_3 rfl (lv_at hl 0 rfl) ?_
  refine lv_iload_n hx hb dd_L_flow_4 rfl (lv_at hl 1 rfl) ?_
  refine lv_iload_n hx hb dd_L_flow_5 rfl (lv_at hl 2 rfl) ?_
  refine lv_iload_n hx hb dd_L_flow_6 rfl (lv_at hl 3 rfl) ?_
  refine cx_afterX (cx_rVX (n := 3) (As := [.int p1, .int p2, .int p3]) (rest := [.int (0 : Int32), .ref ao]) ⟨hx, hb, hml, hown, hg⟩ (hC) (cx_gv gm_L_29 gi_C_flow gs_C_flow gn_C gc_C_flow) (by decide +kernel) ⟨by decide, by decide⟩ hK hw f0 rfl rfl hl.1 rfl (Nat.le_of_ble_eq_true rfl) dd_L_flow_7 ⟨by decide, by decide⟩) hw (fun E9 ce9 q9 P9 H locs hp hw hce hcv hcl => ?_) (fun v9 P9 H locs hp hw => ?_)
  · skip
    rcases hxo _ _ hp with rfl | rfl | rfl | rfl
    · refine vx_catch (own := cn_L) (name := xn_IAE) hown [] ⟨0, 12, 15, 13⟩ [⟨0, 12, 19, 15⟩, ⟨0, 12, 23, 27⟩, ⟨0, 12, 27, 33⟩] (by rw [htab]; rfl) (fun _ h => nomatch h) (by decide) (by decide) (hg _ gk_L_13) (cx_cast hK (by decide +kernel)) hce hcv hcl ?_
      refine W.eq (g2 := F0 m 15 ls [.ref q9]) rfl ?_
      refine lv_astore (lv' := [(5, .ref q9), (0, .ref h0), (1, .int p1), (2, .int p2), (3, .int p3), (4, .ref ao)]) hx hb dd_L_flow_15 hl (by decide) rfl (fun ls hl => ?_)
      refine lv_iconst (v := 1) hx hb dd_L_flow_17 (by decide) ?_
      refine vx_ret (cx_iret (v := (1 : Int32)) hx hb hr rfl hlocks hw dd_L_flow_18 (by decide) (by decide) ?_)
      exact .inr (.inl ⟨hp, rfl⟩)
    · refine vx_catch (own := cn_L) (name := xn_IOB) hown [⟨0, 12, 15, 13⟩] ⟨0, 12, 19, 15⟩ [⟨0, 12, 23, 27⟩, ⟨0, 12, 27, 33⟩] (by rw [htab]; rfl) (List.forall_mem_cons.mpr ⟨.inr ⟨by decide, xn_IAE, hg _ gk_L_13, hK.2.2.2.2.1 _ (by decide +kernel : (xn_IOB, xn_IAE) ∈ nc_w)⟩, fun _ h => nomatch h⟩) (by decide) (by decide) (hg _ gk_L_15) (cx_cast hK (by decide +kernel)) hce hcv hcl ?_
      refine W.eq (g2 := F0 m 19 ls [.ref q9]) rfl ?_
      refine lv_astore (lv' := [(5, .ref q9), (0, .ref h0), (1, .int p1), (2, .int p2), (3, .int p3), (4, .ref ao)]) hx hb dd_L_flow_19 hl (by decide) rfl (fun ls hl => ?_)
      refine lv_iconst (v := 2) hx hb dd_L_flow_21 (by decide) ?_
      refine vx_ret (cx_iret (v := (2 : Int32)) hx hb hr rfl hlocks hw dd_L_flow_22 (by decide) (by decide) ?_)
      exact .inr (.inr (.inl ⟨hp, rfl⟩))
    · refine vx_catch (own := cn_L) (name := xn_ISE) hown [⟨0, 12, 15, 13⟩, ⟨0, 12, 19, 15⟩] ⟨0, 12, 23, 27⟩ [⟨0, 12, 27, 33⟩] (by rw [htab]; rfl) (List.forall_mem_cons.mpr ⟨.inr ⟨by decide, xn_IAE, hg _ gk_L_13, hK.2.2.2.2.1 _ (by decide +kernel : (xn_ISE, xn_IAE) ∈ nc_w)⟩, List.forall_mem_cons.mpr ⟨.inr ⟨by decide, xn_IOB, hg _ gk_L_15, hK.2.2.2.2.1 _ (by decide +kernel : (xn_ISE, xn_IOB) ∈ nc_w)⟩, fun _ h => nomatch h⟩⟩) (by decide) (by decide) (hg _ gk_L_27) (cx_cast hK (by decide +kernel)) hce hcv hcl ?_
      refine W.eq (g2 := F0 m 23 ls [.ref q9]) rfl ?_
      refine lv_astore (lv' := [(5, .ref q9), (0, .ref h0), (1, .int p1), (2, .int p2), (3, .int p3), (4, .ref ao)]) hx hb dd_L_flow_23 hl (by decide) rfl (fun ls hl => ?_)
      refine lv_iconst (v := 3) hx hb dd_L_flow_25 (by decide) ?_
      refine vx_ret (cx_iret (v := (3 : Int32)) hx hb hr rfl hlocks hw dd_L_flow_26 (by decide) (by decide) ?_)
      exact .inr (.inr (.inr (.inl ⟨hp, rfl⟩)))
    · refine vx_catch (own := cn_L) (name := xn_ARE) hown [⟨0, 12, 15, 13⟩, ⟨0, 12, 19, 15⟩, ⟨0, 12, 23, 27⟩] ⟨0, 12, 27, 33⟩ [] (by rw [htab]; rfl) (List.forall_mem_cons.mpr ⟨.inr ⟨by decide, xn_IAE, hg _ gk_L_13, hK.2.2.2.2.1 _ (by decide +kernel : (xn_ARE, xn_IAE) ∈ nc_w)⟩, List.forall_mem_cons.mpr ⟨.inr ⟨by decide, xn_IOB, hg _ gk_L_15, hK.2.2.2.2.1 _ (by decide +kernel : (xn_ARE, xn_IOB) ∈ nc_w)⟩, List.forall_mem_cons.mpr ⟨.inr ⟨by decide, xn_ISE, hg _ gk_L_27, hK.2.2.2.2.1 _ (by decide +kernel : (xn_ARE, xn_ISE) ∈ nc_w)⟩, fun _ h => nomatch h⟩⟩⟩) (by decide) (by decide) (hg _ gk_L_33) (cx_cast hK (by decide +kernel)) hce hcv hcl ?_
      refine W.eq (g2 := F0 m 27 ls [.ref q9]) rfl ?_
      refine lv_astore (lv' := [(5, .ref q9), (0, .ref h0), (1, .int p1), (2, .int p2), (3, .int p3), (4, .ref ao)]) hx hb dd_L_flow_27 hl (by decide) rfl (fun ls hl => ?_)
      refine lv_iconst (v := 4) hx hb dd_L_flow_29 (by decide) ?_
      refine vx_ret (cx_iret (v := (4 : Int32)) hx hb hr rfl hlocks hw dd_L_flow_30 (by decide) (by decide) ?_)
      exact .inr (.inr (.inr (.inr (⟨hp, rfl⟩))))
  · skip
    obtain ⟨r, fo, rfl, fo9⟩ := hpo _ _ hp
    refine W.eq (g2 := F0 m 10 ls [.int r, .int (0 : Int32), .ref ao]) rfl ?_
    refine lv_i2l hx hb dd_L_flow_10 rfl ?_
    refine pm_last (x := (r).toInt64) hx hb hK.2.1 hw 1 fo9 rfl (show vp_in (0 : Int32) 1 from vp_in_nI (n := 0) (by decide) (by decide)) dd_L_flow_11 (fun H locs hw => ?_)
    have hw : pm_W z D cl_w (pm_up P9 ao (.inl (ac 1, 1, .inr (.inl (vp_updL fo ((0 : Int32).toNatClampNeg) ((r).toInt64)))))) s.heap H _ := hw
    obtain ⟨P1, eP1⟩ : ∃ pmv : pm_T, pmv = pm_up P9 ao (.inl (ac 1, 1, .inr (.inl (vp_updL fo ((0 : Int32).toNatClampNeg) ((r).toInt64))))) := ⟨_, rfl⟩
    rw [← eP1] at hw
    have f2 : P1 ao = some (.inl (ac 1, 1, .inr (.inl (vp_updL fo ((0 : Int32).toNatClampNeg) ((r).toInt64))))) := by rw [eP1]; exact pm_s
    refine lv_goto (tgt := 31) hx hb dd_L_flow_12 (by decide) ?_
    refine lv_iconst (v := 0) hx hb dd_L_flow_31 (by decide) ?_
    refine vx_ret (cx_iret (v := (0 : Int32)) hx hb hr rfl hlocks hw dd_L_flow_32 (by decide) (by decide) ?_)
    exact .inl ⟨r, P9, fo, hp, fo9, rfl, by rw [eP1]; rfl⟩

set_option maxHeartbeats 4000000 in
set_option maxRecDepth 100000 in
theorem w_sort (l : Launch) (z : Nat) (D : va_G) (ac : Nat → ClassId) (sa : Nat → Nat) (P : pm_T) (h0 ao : Nat) (fs : List Value) (p1 : Int32) (post : Option Value → pm_T → Prop) (xp : String → pm_T → Prop) (hC : cx_V l yy_C_sort bb_C_sort 3 (some .int) ({ frames := 7, cells := 3, slots := 18, locals := 138 } : Room) z D ac sa P [.ref h0, .int p1] post xp) (hpo : ∀ v P1, post v P1 → ∃ (r : Int32) (fo : Nat → Int64), v = some (.int r) ∧ P1 ao = some (.inl (ac 1, 1, .inr (.inl fo)))) (hxo : ∀ E P1, xp E P1 → E = xn_IAE ∨ E = xn_ISE ∨ E = xn_ARE) (f0 : P h0 = some (.inr (0, fs))) : cx_VH l yy_L_sort bb_L_sort 4 (some .int) [(0, 9, 12, 13), (0, 9, 15, 27), (0, 9, 18, 33)] ({ frames := 8, cells := 3, slots := 18, locals := 160 } : Room) z D ac sa P [.ref h0, .int p1, .ref ao] (fun v P' => (∃ (r : Int32) (P1 : pm_T) (fo : Nat → Int64), post (some (.int r)) P1 ∧ P1 ao = some (.inl (ac 1, 1, .inr (.inl fo))) ∧ v = some (.int 0) ∧ P' = pm_up P1 ao (.inl (ac 1, 1, .inr (.inl (vp_updL fo 0 r.toInt64))))) ∨ (xp xn_IAE P' ∧ v = some (.int 1)) ∨ (xp xn_ISE P' ∧ v = some (.int 2)) ∨ (xp xn_ARE P' ∧ v = some (.int 3))) := by
  refine cx_ofVH (by decide) (Nat.le_of_ble_eq_true rfl) (fun p e s m below meth c ls hx hb hr hml hg hown hlocks htab hK hw hl => ?_)
  have hl : lv_has ls 4 [(0, .ref h0), (1, .int p1), (2, .ref ao)] := hl
  have hown : s.vm.findClass cn_L = some m.cls := hown
  refine lv_aload_n hx hb dd_L_sort_0 rfl (lv_at hl 2 rfl) ?_
  refine lv_iconst (v := 0) hx hb dd_L_sort_1 (by decide) ?_
  refine lv_aload_n hx hb dd_L_sort_2 rfl (lv_at hl 0 rfl) ?_
  refine lv_iload_n hx hb dd_L_sort_3 rfl (lv_at hl 1 rfl) ?_
  refine cx_afterX (cx_rVX (n := 1) (As := [.int p1]) (rest := [.int (0 : Int32), .ref ao]) ⟨hx, hb, hml, hown, hg⟩ (hC) (cx_gv gm_L_35 gi_C_sort gs_C_sort gn_C gc_C_sort) (by decide +kernel) ⟨by decide, by decide⟩ hK hw f0 rfl rfl hl.1 rfl (Nat.le_of_ble_eq_true rfl) dd_L_sort_4 ⟨by decide, by decide⟩) hw (fun E9 ce9 q9 P9 H locs hp hw hce hcv hcl => ?_) (fun v9 P9 H locs hp hw => ?_)
  · skip
    rcases hxo _ _ hp with rfl | rfl | rfl
    · refine vx_catch (own := cn_L) (name := xn_IAE) hown [] ⟨0, 9, 12, 13⟩ [⟨0, 9, 15, 27⟩, ⟨0, 9, 18, 33⟩] (by rw [htab]; rfl) (fun _ h => nomatch h) (by decide) (by decide) (hg _ gk_L_13) (cx_cast hK (by decide +kernel)) hce hcv hcl ?_
      refine W.eq (g2 := F0 m 12 ls [.ref q9]) rfl ?_
      refine lv_astore_n (lv' := [(3, .ref q9), (0, .ref h0), (1, .int p1), (2, .ref ao)]) hx hb dd_L_sort_12 rfl hl (by decide) rfl (fun ls hl => ?_)
      refine lv_iconst (v := 1) hx hb dd_L_sort_13 (by decide) ?_
      refine vx_ret (cx_iret (v := (1 : Int32)) hx hb hr rfl hlocks hw dd_L_sort_14 (by decide) (by decide) ?_)
      exact .inr (.inl ⟨hp, rfl⟩)
    · refine vx_catch (own := cn_L) (name := xn_ISE) hown [⟨0, 9, 12, 13⟩] ⟨0, 9, 15, 27⟩ [⟨0, 9, 18, 33⟩] (by rw [htab]; rfl) (List.forall_mem_cons.mpr ⟨.inr ⟨by decide, xn_IAE, hg _ gk_L_13, hK.2.2.2.2.1 _ (by decide +kernel : (xn_ISE, xn_IAE) ∈ nc_w)⟩, fun _ h => nomatch h⟩) (by decide) (by decide) (hg _ gk_L_27) (cx_cast hK (by decide +kernel)) hce hcv hcl ?_
      refine W.eq (g2 := F0 m 15 ls [.ref q9]) rfl ?_
      refine lv_astore_n (lv' := [(3, .ref q9), (0, .ref h0), (1, .int p1), (2, .ref ao)]) hx hb dd_L_sort_15 rfl hl (by decide) rfl (fun ls hl => ?_)
      refine lv_iconst (v := 2) hx hb dd_L_sort_16 (by decide) ?_
      refine vx_ret (cx_iret (v := (2 : Int32)) hx hb hr rfl hlocks hw dd_L_sort_17 (by decide) (by decide) ?_)
      exact .inr (.inr (.inl ⟨hp, rfl⟩))
    · refine vx_catch (own := cn_L) (name := xn_ARE) hown [⟨0, 9, 12, 13⟩, ⟨0, 9, 15, 27⟩] ⟨0, 9, 18, 33⟩ [] (by rw [htab]; rfl) (List.forall_mem_cons.mpr ⟨.inr ⟨by decide, xn_IAE, hg _ gk_L_13, hK.2.2.2.2.1 _ (by decide +kernel : (xn_ARE, xn_IAE) ∈ nc_w)⟩, List.forall_mem_cons.mpr ⟨.inr ⟨by decide, xn_ISE, hg _ gk_L_27, hK.2.2.2.2.1 _ (by decide +kernel : (xn_ARE, xn_ISE) ∈ nc_w)⟩, fun _ h => nomatch h⟩⟩) (by decide) (by decide) (hg _ gk_L_33) (cx_cast hK (by decide +kernel)) hce hcv hcl ?_
      refine W.eq (g2 := F0 m 18 ls [.ref q9]) rfl ?_
      refine lv_astore_n (lv' := [(3, .ref q9), (0, .ref h0), (1, .int p1), (2, .ref ao)]) hx hb dd_L_sort_18 rfl hl (by decide) rfl (fun ls hl => ?_)
      refine lv_iconst (v := 3) hx hb dd_L_sort_19 (by decide) ?_
      refine vx_ret (cx_iret (v := (3 : Int32)) hx hb hr rfl hlocks hw dd_L_sort_20 (by decide) (by decide) ?_)
      exact .inr (.inr (.inr (⟨hp, rfl⟩)))
  · skip
    obtain ⟨r, fo, rfl, fo9⟩ := hpo _ _ hp
    refine W.eq (g2 := F0 m 7 ls [.int r, .int (0 : Int32), .ref ao]) rfl ?_
    refine lv_i2l hx hb dd_L_sort_7 rfl ?_
    refine pm_last (x := (r).toInt64) hx hb hK.2.1 hw 1 fo9 rfl (show vp_in (0 : Int32) 1 from vp_in_nI (n := 0) (by decide) (by decide)) dd_L_sort_8 (fun H locs hw => ?_)
    have hw : pm_W z D cl_w (pm_up P9 ao (.inl (ac 1, 1, .inr (.inl (vp_updL fo ((0 : Int32).toNatClampNeg) ((r).toInt64)))))) s.heap H _ := hw
    obtain ⟨P1, eP1⟩ : ∃ pmv : pm_T, pmv = pm_up P9 ao (.inl (ac 1, 1, .inr (.inl (vp_updL fo ((0 : Int32).toNatClampNeg) ((r).toInt64))))) := ⟨_, rfl⟩
    rw [← eP1] at hw
    have f2 : P1 ao = some (.inl (ac 1, 1, .inr (.inl (vp_updL fo ((0 : Int32).toNatClampNeg) ((r).toInt64))))) := by rw [eP1]; exact pm_s
    refine lv_goto (tgt := 21) hx hb dd_L_sort_9 (by decide) ?_
    refine lv_iconst (v := 0) hx hb dd_L_sort_21 (by decide) ?_
    refine vx_ret (cx_iret (v := (0 : Int32)) hx hb hr rfl hlocks hw dd_L_sort_22 (by decide) (by decide) ?_)
    exact .inl ⟨r, P9, fo, hp, fo9, rfl, by rw [eP1]; rfl⟩

set_option maxHeartbeats 4000000 in
set_option maxRecDepth 100000 in
theorem w_defect (l : Launch) (z : Nat) (D : va_G) (ac : Nat → ClassId) (sa : Nat → Nat) (P : pm_T) (h0 : Nat) (fs : List Value) (p1 : Int32) (p2 : Int32) (post : Option Value → pm_T → Prop) (xp : String → pm_T → Prop) (hC : cx_V l yy_C_defect bb_C_defect 4 none ({ frames := 7, cells := 2, slots := 12, locals := 138 } : Room) z D ac sa P [.ref h0, .int p1, .int p2] post xp) (hpo : ∀ v P1, post v P1 → v = none) (hxo : ∀ E P1, xp E P1 → E = xn_IAE ∨ E = xn_IOB) (f0 : P h0 = some (.inr (0, fs))) : cx_VH l yy_L_defect bb_L_defect 4 (some .int) [(0, 6, 9, 13), (0, 6, 12, 15)] ({ frames := 8, cells := 2, slots := 12, locals := 161 } : Room) z D ac sa P [.ref h0, .int p1, .int p2] (fun v P' => (post none P' ∧ v = some (.int 0)) ∨ (xp xn_IAE P' ∧ v = some (.int 1)) ∨ (xp xn_IOB P' ∧ v = some (.int 2))) := by
  refine cx_ofVH (by decide) (Nat.le_of_ble_eq_true rfl) (fun p e s m below meth c ls hx hb hr hml hg hown hlocks htab hK hw hl => ?_)
  have hl : lv_has ls 4 [(0, .ref h0), (1, .int p1), (2, .int p2)] := hl
  have hown : s.vm.findClass cn_L = some m.cls := hown
  refine lv_aload_n hx hb dd_L_defect_0 rfl (lv_at hl 0 rfl) ?_
  refine lv_iload_n hx hb dd_L_defect_1 rfl (lv_at hl 1 rfl) ?_
  refine lv_iload_n hx hb dd_L_defect_2 rfl (lv_at hl 2 rfl) ?_
  refine cx_afterX (cx_rVX (n := 2) (As := [.int p1, .int p2]) (rest := []) ⟨hx, hb, hml, hown, hg⟩ (hC) (cx_gv gm_L_39 gi_C_defect gs_C_defect gn_C gc_C_defect) (by decide +kernel) ⟨by decide, by decide⟩ hK hw f0 rfl rfl hl.1 rfl (Nat.le_of_ble_eq_true rfl) dd_L_defect_3 ⟨by decide, by decide⟩) hw (fun E9 ce9 q9 P9 H locs hp hw hce hcv hcl => ?_) (fun v9 P9 H locs hp hw => ?_)
  · skip
    rcases hxo _ _ hp with rfl | rfl
    · refine vx_catch (own := cn_L) (name := xn_IAE) hown [] ⟨0, 6, 9, 13⟩ [⟨0, 6, 12, 15⟩] (by rw [htab]; rfl) (fun _ h => nomatch h) (by decide) (by decide) (hg _ gk_L_13) (cx_cast hK (by decide +kernel)) hce hcv hcl ?_
      refine W.eq (g2 := F0 m 9 ls [.ref q9]) rfl ?_
      refine lv_astore_n (lv' := [(3, .ref q9), (0, .ref h0), (1, .int p1), (2, .int p2)]) hx hb dd_L_defect_9 rfl hl (by decide) rfl (fun ls hl => ?_)
      refine lv_iconst (v := 1) hx hb dd_L_defect_10 (by decide) ?_
      refine vx_ret (cx_iret (v := (1 : Int32)) hx hb hr rfl hlocks hw dd_L_defect_11 (by decide) (by decide) ?_)
      exact .inr (.inl ⟨hp, rfl⟩)
    · refine vx_catch (own := cn_L) (name := xn_IOB) hown [⟨0, 6, 9, 13⟩] ⟨0, 6, 12, 15⟩ [] (by rw [htab]; rfl) (List.forall_mem_cons.mpr ⟨.inr ⟨by decide, xn_IAE, hg _ gk_L_13, hK.2.2.2.2.1 _ (by decide +kernel : (xn_IOB, xn_IAE) ∈ nc_w)⟩, fun _ h => nomatch h⟩) (by decide) (by decide) (hg _ gk_L_15) (cx_cast hK (by decide +kernel)) hce hcv hcl ?_
      refine W.eq (g2 := F0 m 12 ls [.ref q9]) rfl ?_
      refine lv_astore_n (lv' := [(3, .ref q9), (0, .ref h0), (1, .int p1), (2, .int p2)]) hx hb dd_L_defect_12 rfl hl (by decide) rfl (fun ls hl => ?_)
      refine lv_iconst (v := 2) hx hb dd_L_defect_13 (by decide) ?_
      refine vx_ret (cx_iret (v := (2 : Int32)) hx hb hr rfl hlocks hw dd_L_defect_14 (by decide) (by decide) ?_)
      exact .inr (.inr (⟨hp, rfl⟩))
  · skip
    have e9 := hpo _ _ hp
    subst e9
    refine W.eq (g2 := F0 m 6 ls []) rfl ?_
    refine lv_goto (tgt := 15) hx hb dd_L_defect_6 (by decide) ?_
    refine lv_iconst (v := 0) hx hb dd_L_defect_15 (by decide) ?_
    refine vx_ret (cx_iret (v := (0 : Int32)) hx hb hr rfl hlocks hw dd_L_defect_16 (by decide) (by decide) ?_)
    exact .inl ⟨hp, rfl⟩

set_option maxHeartbeats 4000000 in
set_option maxRecDepth 100000 in
theorem w_works (l : Launch) (z : Nat) (D : va_G) (ac : Nat → ClassId) (sa : Nat → Nat) (P : pm_T) (h0 : Nat) (fs : List Value) (p1 : Int32) (p2 : Int32) (p3 : Int32) (post : Option Value → pm_T → Prop) (xp : String → pm_T → Prop) (hC : cx_V l yy_C_works bb_C_works 5 none ({ frames := 7, cells := 6, slots := 36, locals := 138 } : Room) z D ac sa P [.ref h0, .int p1, .int p2, .int p3] post xp) (hpo : ∀ v P1, post v P1 → v = none) (hxo : ∀ E P1, xp E P1 → E = xn_IAE ∨ E = xn_IOB ∨ E = xn_ISE ∨ E = xn_UOE) (f0 : P h0 = some (.inr (0, fs))) : cx_VH l yy_L_works bb_L_works 5 (some .int) [(0, 7, 10, 13), (0, 7, 14, 15), (0, 7, 18, 27), (0, 7, 22, 17)] ({ frames := 8, cells := 6, slots := 36, locals := 162 } : Room) z D ac sa P [.ref h0, .int p1, .int p2, .int p3] (fun v P' => (post none P' ∧ v = some (.int 0)) ∨ (xp xn_IAE P' ∧ v = some (.int 1)) ∨ (xp xn_IOB P' ∧ v = some (.int 2)) ∨ (xp xn_ISE P' ∧ v = some (.int 3)) ∨ (xp xn_UOE P' ∧ v = some (.int 4))) := by
  refine cx_ofVH (by decide) (Nat.le_of_ble_eq_true rfl) (fun p e s m below meth c ls hx hb hr hml hg hown hlocks htab hK hw hl => ?_)
  have hl : lv_has ls 5 [(0, .ref h0), (1, .int p1), (2, .int p2), (3, .int p3)] := hl
  have hown : s.vm.findClass cn_L = some m.cls := hown
  refine lv_aload_n hx hb dd_L_works_0 rfl (lv_at hl 0 rfl) ?_
  refine lv_iload_n hx hb dd_L_works_1 rfl (lv_at hl 1 rfl) ?_
  refine lv_iload_n hx hb dd_L_works_2 rfl (lv_at hl 2 rfl) ?_
  refine lv_iload_n hx hb dd_L_works_3 rfl (lv_at hl 3 rfl) ?_
  refine cx_afterX (cx_rVX (n := 3) (As := [.int p1, .int p2, .int p3]) (rest := []) ⟨hx, hb, hml, hown, hg⟩ (hC) (cx_gv gm_L_42 gi_C_works gs_C_works gn_C gc_C_works) (by decide +kernel) ⟨by decide, by decide⟩ hK hw f0 rfl rfl hl.1 rfl (Nat.le_of_ble_eq_true rfl) dd_L_works_4 ⟨by decide, by decide⟩) hw (fun E9 ce9 q9 P9 H locs hp hw hce hcv hcl => ?_) (fun v9 P9 H locs hp hw => ?_)
  · skip
    rcases hxo _ _ hp with rfl | rfl | rfl | rfl
    · refine vx_catch (own := cn_L) (name := xn_IAE) hown [] ⟨0, 7, 10, 13⟩ [⟨0, 7, 14, 15⟩, ⟨0, 7, 18, 27⟩, ⟨0, 7, 22, 17⟩] (by rw [htab]; rfl) (fun _ h => nomatch h) (by decide) (by decide) (hg _ gk_L_13) (cx_cast hK (by decide +kernel)) hce hcv hcl ?_
      refine W.eq (g2 := F0 m 10 ls [.ref q9]) rfl ?_
      refine lv_astore (lv' := [(4, .ref q9), (0, .ref h0), (1, .int p1), (2, .int p2), (3, .int p3)]) hx hb dd_L_works_10 hl (by decide) rfl (fun ls hl => ?_)
      refine lv_iconst (v := 1) hx hb dd_L_works_12 (by decide) ?_
      refine vx_ret (cx_iret (v := (1 : Int32)) hx hb hr rfl hlocks hw dd_L_works_13 (by decide) (by decide) ?_)
      exact .inr (.inl ⟨hp, rfl⟩)
    · refine vx_catch (own := cn_L) (name := xn_IOB) hown [⟨0, 7, 10, 13⟩] ⟨0, 7, 14, 15⟩ [⟨0, 7, 18, 27⟩, ⟨0, 7, 22, 17⟩] (by rw [htab]; rfl) (List.forall_mem_cons.mpr ⟨.inr ⟨by decide, xn_IAE, hg _ gk_L_13, hK.2.2.2.2.1 _ (by decide +kernel : (xn_IOB, xn_IAE) ∈ nc_w)⟩, fun _ h => nomatch h⟩) (by decide) (by decide) (hg _ gk_L_15) (cx_cast hK (by decide +kernel)) hce hcv hcl ?_
      refine W.eq (g2 := F0 m 14 ls [.ref q9]) rfl ?_
      refine lv_astore (lv' := [(4, .ref q9), (0, .ref h0), (1, .int p1), (2, .int p2), (3, .int p3)]) hx hb dd_L_works_14 hl (by decide) rfl (fun ls hl => ?_)
      refine lv_iconst (v := 2) hx hb dd_L_works_16 (by decide) ?_
      refine vx_ret (cx_iret (v := (2 : Int32)) hx hb hr rfl hlocks hw dd_L_works_17 (by decide) (by decide) ?_)
      exact .inr (.inr (.inl ⟨hp, rfl⟩))
    · refine vx_catch (own := cn_L) (name := xn_ISE) hown [⟨0, 7, 10, 13⟩, ⟨0, 7, 14, 15⟩] ⟨0, 7, 18, 27⟩ [⟨0, 7, 22, 17⟩] (by rw [htab]; rfl) (List.forall_mem_cons.mpr ⟨.inr ⟨by decide, xn_IAE, hg _ gk_L_13, hK.2.2.2.2.1 _ (by decide +kernel : (xn_ISE, xn_IAE) ∈ nc_w)⟩, List.forall_mem_cons.mpr ⟨.inr ⟨by decide, xn_IOB, hg _ gk_L_15, hK.2.2.2.2.1 _ (by decide +kernel : (xn_ISE, xn_IOB) ∈ nc_w)⟩, fun _ h => nomatch h⟩⟩) (by decide) (by decide) (hg _ gk_L_27) (cx_cast hK (by decide +kernel)) hce hcv hcl ?_
      refine W.eq (g2 := F0 m 18 ls [.ref q9]) rfl ?_
      refine lv_astore (lv' := [(4, .ref q9), (0, .ref h0), (1, .int p1), (2, .int p2), (3, .int p3)]) hx hb dd_L_works_18 hl (by decide) rfl (fun ls hl => ?_)
      refine lv_iconst (v := 3) hx hb dd_L_works_20 (by decide) ?_
      refine vx_ret (cx_iret (v := (3 : Int32)) hx hb hr rfl hlocks hw dd_L_works_21 (by decide) (by decide) ?_)
      exact .inr (.inr (.inr (.inl ⟨hp, rfl⟩)))
    · refine vx_catch (own := cn_L) (name := xn_UOE) hown [⟨0, 7, 10, 13⟩, ⟨0, 7, 14, 15⟩, ⟨0, 7, 18, 27⟩] ⟨0, 7, 22, 17⟩ [] (by rw [htab]; rfl) (List.forall_mem_cons.mpr ⟨.inr ⟨by decide, xn_IAE, hg _ gk_L_13, hK.2.2.2.2.1 _ (by decide +kernel : (xn_UOE, xn_IAE) ∈ nc_w)⟩, List.forall_mem_cons.mpr ⟨.inr ⟨by decide, xn_IOB, hg _ gk_L_15, hK.2.2.2.2.1 _ (by decide +kernel : (xn_UOE, xn_IOB) ∈ nc_w)⟩, List.forall_mem_cons.mpr ⟨.inr ⟨by decide, xn_ISE, hg _ gk_L_27, hK.2.2.2.2.1 _ (by decide +kernel : (xn_UOE, xn_ISE) ∈ nc_w)⟩, fun _ h => nomatch h⟩⟩⟩) (by decide) (by decide) (hg _ gk_L_17) (cx_cast hK (by decide +kernel)) hce hcv hcl ?_
      refine W.eq (g2 := F0 m 22 ls [.ref q9]) rfl ?_
      refine lv_astore (lv' := [(4, .ref q9), (0, .ref h0), (1, .int p1), (2, .int p2), (3, .int p3)]) hx hb dd_L_works_22 hl (by decide) rfl (fun ls hl => ?_)
      refine lv_iconst (v := 4) hx hb dd_L_works_24 (by decide) ?_
      refine vx_ret (cx_iret (v := (4 : Int32)) hx hb hr rfl hlocks hw dd_L_works_25 (by decide) (by decide) ?_)
      exact .inr (.inr (.inr (.inr (⟨hp, rfl⟩))))
  · skip
    have e9 := hpo _ _ hp
    subst e9
    refine W.eq (g2 := F0 m 7 ls []) rfl ?_
    refine lv_goto (tgt := 26) hx hb dd_L_works_7 (by decide) ?_
    refine lv_iconst (v := 0) hx hb dd_L_works_26 (by decide) ?_
    refine vx_ret (cx_iret (v := (0 : Int32)) hx hb hr rfl hlocks hw dd_L_works_27 (by decide) (by decide) ?_)
    exact .inl ⟨hp, rfl⟩

set_option maxHeartbeats 4000000 in
set_option maxRecDepth 100000 in
theorem w_season (l : Launch) (z : Nat) (D : va_G) (ac : Nat → ClassId) (sa : Nat → Nat) (P : pm_T) (h0 : Nat) (fs : List Value) (p1 : Int32) (p2 : Int32) (p3 : Int32) (post : Option Value → pm_T → Prop) (xp : String → pm_T → Prop) (hC : cx_V l yy_C_season bb_C_season 5 none ({ frames := 7, cells := 3, slots := 18, locals := 138 } : Room) z D ac sa P [.ref h0, .int p1, .int p2, .int p3] post xp) (hpo : ∀ v P1, post v P1 → v = none) (hxo : ∀ E P1, xp E P1 → E = xn_IAE ∨ E = xn_IOB ∨ E = xn_ISE) (f0 : P h0 = some (.inr (0, fs))) : cx_VH l yy_L_season bb_L_season 5 (some .int) [(0, 7, 10, 13), (0, 7, 14, 15), (0, 7, 18, 27)] ({ frames := 8, cells := 3, slots := 18, locals := 162 } : Room) z D ac sa P [.ref h0, .int p1, .int p2, .int p3] (fun v P' => (post none P' ∧ v = some (.int 0)) ∨ (xp xn_IAE P' ∧ v = some (.int 1)) ∨ (xp xn_IOB P' ∧ v = some (.int 2)) ∨ (xp xn_ISE P' ∧ v = some (.int 3))) := by
  refine cx_ofVH (by decide) (Nat.le_of_ble_eq_true rfl) (fun p e s m below meth c ls hx hb hr hml hg hown hlocks htab hK hw hl => ?_)
  have hl : lv_has ls 5 [(0, .ref h0), (1, .int p1), (2, .int p2), (3, .int p3)] := hl
  have hown : s.vm.findClass cn_L = some m.cls := hown
  refine lv_aload_n hx hb dd_L_season_0 rfl (lv_at hl 0 rfl) ?_
  refine lv_iload_n hx hb dd_L_season_1 rfl (lv_at hl 1 rfl) ?_
  refine lv_iload_n hx hb dd_L_season_2 rfl (lv_at hl 2 rfl) ?_
  refine lv_iload_n hx hb dd_L_season_3 rfl (lv_at hl 3 rfl) ?_
  refine cx_afterX (cx_rVX (n := 3) (As := [.int p1, .int p2, .int p3]) (rest := []) ⟨hx, hb, hml, hown, hg⟩ (hC) (cx_gv gm_L_46 gi_C_season gs_C_season gn_C gc_C_season) (by decide +kernel) ⟨by decide, by decide⟩ hK hw f0 rfl rfl hl.1 rfl (Nat.le_of_ble_eq_true rfl) dd_L_season_4 ⟨by decide, by decide⟩) hw (fun E9 ce9 q9 P9 H locs hp hw hce hcv hcl => ?_) (fun v9 P9 H locs hp hw => ?_)
  · skip
    rcases hxo _ _ hp with rfl | rfl | rfl
    · refine vx_catch (own := cn_L) (name := xn_IAE) hown [] ⟨0, 7, 10, 13⟩ [⟨0, 7, 14, 15⟩, ⟨0, 7, 18, 27⟩] (by rw [htab]; rfl) (fun _ h => nomatch h) (by decide) (by decide) (hg _ gk_L_13) (cx_cast hK (by decide +kernel)) hce hcv hcl ?_
      refine W.eq (g2 := F0 m 10 ls [.ref q9]) rfl ?_
      refine lv_astore (lv' := [(4, .ref q9), (0, .ref h0), (1, .int p1), (2, .int p2), (3, .int p3)]) hx hb dd_L_season_10 hl (by decide) rfl (fun ls hl => ?_)
      refine lv_iconst (v := 1) hx hb dd_L_season_12 (by decide) ?_
      refine vx_ret (cx_iret (v := (1 : Int32)) hx hb hr rfl hlocks hw dd_L_season_13 (by decide) (by decide) ?_)
      exact .inr (.inl ⟨hp, rfl⟩)
    · refine vx_catch (own := cn_L) (name := xn_IOB) hown [⟨0, 7, 10, 13⟩] ⟨0, 7, 14, 15⟩ [⟨0, 7, 18, 27⟩] (by rw [htab]; rfl) (List.forall_mem_cons.mpr ⟨.inr ⟨by decide, xn_IAE, hg _ gk_L_13, hK.2.2.2.2.1 _ (by decide +kernel : (xn_IOB, xn_IAE) ∈ nc_w)⟩, fun _ h => nomatch h⟩) (by decide) (by decide) (hg _ gk_L_15) (cx_cast hK (by decide +kernel)) hce hcv hcl ?_
      refine W.eq (g2 := F0 m 14 ls [.ref q9]) rfl ?_
      refine lv_astore (lv' := [(4, .ref q9), (0, .ref h0), (1, .int p1), (2, .int p2), (3, .int p3)]) hx hb dd_L_season_14 hl (by decide) rfl (fun ls hl => ?_)
      refine lv_iconst (v := 2) hx hb dd_L_season_16 (by decide) ?_
      refine vx_ret (cx_iret (v := (2 : Int32)) hx hb hr rfl hlocks hw dd_L_season_17 (by decide) (by decide) ?_)
      exact .inr (.inr (.inl ⟨hp, rfl⟩))
    · refine vx_catch (own := cn_L) (name := xn_ISE) hown [⟨0, 7, 10, 13⟩, ⟨0, 7, 14, 15⟩] ⟨0, 7, 18, 27⟩ [] (by rw [htab]; rfl) (List.forall_mem_cons.mpr ⟨.inr ⟨by decide, xn_IAE, hg _ gk_L_13, hK.2.2.2.2.1 _ (by decide +kernel : (xn_ISE, xn_IAE) ∈ nc_w)⟩, List.forall_mem_cons.mpr ⟨.inr ⟨by decide, xn_IOB, hg _ gk_L_15, hK.2.2.2.2.1 _ (by decide +kernel : (xn_ISE, xn_IOB) ∈ nc_w)⟩, fun _ h => nomatch h⟩⟩) (by decide) (by decide) (hg _ gk_L_27) (cx_cast hK (by decide +kernel)) hce hcv hcl ?_
      refine W.eq (g2 := F0 m 18 ls [.ref q9]) rfl ?_
      refine lv_astore (lv' := [(4, .ref q9), (0, .ref h0), (1, .int p1), (2, .int p2), (3, .int p3)]) hx hb dd_L_season_18 hl (by decide) rfl (fun ls hl => ?_)
      refine lv_iconst (v := 3) hx hb dd_L_season_20 (by decide) ?_
      refine vx_ret (cx_iret (v := (3 : Int32)) hx hb hr rfl hlocks hw dd_L_season_21 (by decide) (by decide) ?_)
      exact .inr (.inr (.inr (⟨hp, rfl⟩)))
  · skip
    have e9 := hpo _ _ hp
    subst e9
    refine W.eq (g2 := F0 m 7 ls []) rfl ?_
    refine lv_goto (tgt := 22) hx hb dd_L_season_7 (by decide) ?_
    refine lv_iconst (v := 0) hx hb dd_L_season_22 (by decide) ?_
    refine vx_ret (cx_iret (v := (0 : Int32)) hx hb hr rfl hlocks hw dd_L_season_23 (by decide) (by decide) ?_)
    exact .inl ⟨hp, rfl⟩

set_option maxHeartbeats 4000000 in
set_option maxRecDepth 100000 in
theorem w_usable (l : Launch) (z : Nat) (D : va_G) (ac : Nat → ClassId) (sa : Nat → Nat) (P : pm_T) (h0 ao : Nat) (fs : List Value) (p1 : Int32) (p2 : Int32) (post : Option Value → pm_T → Prop) (xp : String → pm_T → Prop) (hC : cx_V l yy_C_usable bb_C_usable 4 (some .boolean) ({ frames := 7, cells := 2, slots := 12, locals := 138 } : Room) z D ac sa P [.ref h0, .int p1, .int p2] post xp) (hpo : ∀ v P1, post v P1 → ∃ (r : Int32) (fo : Nat → Int64), v = some (.int r) ∧ P1 ao = some (.inl (ac 1, 1, .inr (.inl fo)))) (hxo : ∀ E P1, xp E P1 → E = xn_IAE ∨ E = xn_IOB) (f0 : P h0 = some (.inr (0, fs))) : cx_VH l yy_L_usable bb_L_usable 5 (some .int) [(0, 17, 20, 13), (0, 17, 24, 15)] ({ frames := 8, cells := 2, slots := 12, locals := 161 } : Room) z D ac sa P [.ref h0, .int p1, .int p2, .ref ao] (fun v P' => (∃ (r : Int32) (P1 : pm_T) (fo : Nat → Int64), post (some (.int r)) P1 ∧ P1 ao = some (.inl (ac 1, 1, .inr (.inl fo))) ∧ v = some (.int 0) ∧ P' = pm_up P1 ao (.inl (ac 1, 1, .inr (.inl (vp_updL fo 0 (if r = 0 then (0 : Int64) else 1)))))) ∨ (xp xn_IAE P' ∧ v = some (.int 1)) ∨ (xp xn_IOB P' ∧ v = some (.int 2))) := by
  refine cx_ofVH (by decide) (Nat.le_of_ble_eq_true rfl) (fun p e s m below meth c ls hx hb hr hml hg hown hlocks htab hK hw hl => ?_)
  have hl : lv_has ls 5 [(0, .ref h0), (1, .int p1), (2, .int p2), (3, .ref ao)] := hl
  have hown : s.vm.findClass cn_L = some m.cls := hown
  refine lv_aload_n hx hb dd_L_usable_0 rfl (lv_at hl 3 rfl) ?_
  refine lv_iconst (v := 0) hx hb dd_L_usable_1 (by decide) ?_
  refine lv_aload_n hx hb dd_L_usable_2 rfl (lv_at hl 0 rfl) ?_
  refine lv_iload_n hx hb dd_L_usable_3 rfl (lv_at hl 1 rfl) ?_
  refine lv_iload_n hx hb dd_L_usable_4 rfl (lv_at hl 2 rfl) ?_
  refine cx_afterX (cx_rVX (n := 2) (As := [.int p1, .int p2]) (rest := [.int (0 : Int32), .ref ao]) ⟨hx, hb, hml, hown, hg⟩ (hC) (cx_gv gm_L_50 gi_C_usable gs_C_usable gn_C gc_C_usable) (by decide +kernel) ⟨by decide, by decide⟩ hK hw f0 rfl rfl hl.1 rfl (Nat.le_of_ble_eq_true rfl) dd_L_usable_5 ⟨by decide, by decide⟩) hw (fun E9 ce9 q9 P9 H locs hp hw hce hcv hcl => ?_) (fun v9 P9 H locs hp hw => ?_)
  · skip
    rcases hxo _ _ hp with rfl | rfl
    · refine vx_catch (own := cn_L) (name := xn_IAE) hown [] ⟨0, 17, 20, 13⟩ [⟨0, 17, 24, 15⟩] (by rw [htab]; rfl) (fun _ h => nomatch h) (by decide) (by decide) (hg _ gk_L_13) (cx_cast hK (by decide +kernel)) hce hcv hcl ?_
      refine W.eq (g2 := F0 m 20 ls [.ref q9]) rfl ?_
      refine lv_astore (lv' := [(4, .ref q9), (0, .ref h0), (1, .int p1), (2, .int p2), (3, .ref ao)]) hx hb dd_L_usable_20 hl (by decide) rfl (fun ls hl => ?_)
      refine lv_iconst (v := 1) hx hb dd_L_usable_22 (by decide) ?_
      refine vx_ret (cx_iret (v := (1 : Int32)) hx hb hr rfl hlocks hw dd_L_usable_23 (by decide) (by decide) ?_)
      exact .inr (.inl ⟨hp, rfl⟩)
    · refine vx_catch (own := cn_L) (name := xn_IOB) hown [⟨0, 17, 20, 13⟩] ⟨0, 17, 24, 15⟩ [] (by rw [htab]; rfl) (List.forall_mem_cons.mpr ⟨.inr ⟨by decide, xn_IAE, hg _ gk_L_13, hK.2.2.2.2.1 _ (by decide +kernel : (xn_IOB, xn_IAE) ∈ nc_w)⟩, fun _ h => nomatch h⟩) (by decide) (by decide) (hg _ gk_L_15) (cx_cast hK (by decide +kernel)) hce hcv hcl ?_
      refine W.eq (g2 := F0 m 24 ls [.ref q9]) rfl ?_
      refine lv_astore (lv' := [(4, .ref q9), (0, .ref h0), (1, .int p1), (2, .int p2), (3, .ref ao)]) hx hb dd_L_usable_24 hl (by decide) rfl (fun ls hl => ?_)
      refine lv_iconst (v := 2) hx hb dd_L_usable_26 (by decide) ?_
      refine vx_ret (cx_iret (v := (2 : Int32)) hx hb hr rfl hlocks hw dd_L_usable_27 (by decide) (by decide) ?_)
      exact .inr (.inr (⟨hp, rfl⟩))
  · skip
    obtain ⟨r, fo, rfl, fo9⟩ := hpo _ _ hp
    refine W.eq (g2 := F0 m 8 ls [.int r, .int (0 : Int32), .ref ao]) rfl ?_
    refine lv_if_eq (tgt := 15) hx hb dd_L_usable_8 (by decide) (fun c1 => ?_) (fun c1 => ?_)
    · skip
      refine lv_lconst (v := 0) hx hb dd_L_usable_15 (by decide) ?_
      refine pm_last (x := (0 : Int64)) hx hb hK.2.1 hw 1 fo9 rfl (show vp_in (0 : Int32) 1 from vp_in_nI (n := 0) (by decide) (by decide)) dd_L_usable_16 (fun H locs hw => ?_)
      have hw : pm_W z D cl_w (pm_up P9 ao (.inl (ac 1, 1, .inr (.inl (vp_updL fo ((0 : Int32).toNatClampNeg) (0 : Int64)))))) s.heap H _ := hw
      obtain ⟨P2, eP2⟩ : ∃ pmv : pm_T, pmv = pm_up P9 ao (.inl (ac 1, 1, .inr (.inl (vp_updL fo ((0 : Int32).toNatClampNeg) (0 : Int64))))) := ⟨_, rfl⟩
      rw [← eP2] at hw
      have f3 : P2 ao = some (.inl (ac 1, 1, .inr (.inl (vp_updL fo ((0 : Int32).toNatClampNeg) (0 : Int64))))) := by rw [eP2]; exact pm_s
      refine lv_goto (tgt := 28) hx hb dd_L_usable_17 (by decide) ?_
      refine lv_iconst (v := 0) hx hb dd_L_usable_28 (by decide) ?_
      refine vx_ret (cx_iret (v := (0 : Int32)) hx hb hr rfl hlocks hw dd_L_usable_29 (by decide) (by decide) ?_)
      exact .inl ⟨r, P9, fo, hp, fo9, rfl, by rw [eP2]; rw [if_pos c1]; rfl⟩
    · skip
      refine lv_lconst (v := 1) hx hb dd_L_usable_11 (by decide) ?_
      refine lv_goto (tgt := 16) hx hb dd_L_usable_12 (by decide) ?_
      refine pm_last (x := (1 : Int64)) hx hb hK.2.1 hw 1 fo9 rfl (show vp_in (0 : Int32) 1 from vp_in_nI (n := 0) (by decide) (by decide)) dd_L_usable_16 (fun H locs hw => ?_)
      have hw : pm_W z D cl_w (pm_up P9 ao (.inl (ac 1, 1, .inr (.inl (vp_updL fo ((0 : Int32).toNatClampNeg) (1 : Int64)))))) s.heap H _ := hw
      obtain ⟨P4, eP4⟩ : ∃ pmv : pm_T, pmv = pm_up P9 ao (.inl (ac 1, 1, .inr (.inl (vp_updL fo ((0 : Int32).toNatClampNeg) (1 : Int64))))) := ⟨_, rfl⟩
      rw [← eP4] at hw
      have f5 : P4 ao = some (.inl (ac 1, 1, .inr (.inl (vp_updL fo ((0 : Int32).toNatClampNeg) (1 : Int64))))) := by rw [eP4]; exact pm_s
      refine lv_goto (tgt := 28) hx hb dd_L_usable_17 (by decide) ?_
      refine lv_iconst (v := 0) hx hb dd_L_usable_28 (by decide) ?_
      refine vx_ret (cx_iret (v := (0 : Int32)) hx hb hr rfl hlocks hw dd_L_usable_29 (by decide) (by decide) ?_)
      exact .inl ⟨r, P9, fo, hp, fo9, rfl, by rw [eP4]; rw [if_neg c1]; rfl⟩

set_option maxHeartbeats 4000000 in
set_option maxRecDepth 100000 in
theorem w_near (l : Launch) (z : Nat) (D : va_G) (ac : Nat → ClassId) (sa : Nat → Nat) (P : pm_T) (h0 ao : Nat) (fs : List Value) (p1 : Int32) (p2 : Int32) (p3 : Int32) (p4 : Int32) (post : Option Value → pm_T → Prop) (xp : String → pm_T → Prop) (hC : cx_V l yy_C_near bb_C_near 9 (some .int) ({ frames := 7, cells := 3, slots := 18, locals := 111 } : Room) z D ac sa P [.ref h0, .int p1, .int p2, .int p3, .int p4] post xp) (hpo : ∀ v P1, post v P1 → ∃ (r : Int32) (fo : Nat → Int64), v = some (.int r) ∧ P1 ao = some (.inl (ac 1, 1, .inr (.inl fo)))) (hxo : ∀ E P1, xp E P1 → E = xn_IOB) (f0 : P h0 = some (.inr (0, fs))) : cx_VH l yy_L_near bb_L_near 7 (some .int) [(0, 14, 17, 15)] ({ frames := 8, cells := 3, slots := 18, locals := 139 } : Room) z D ac sa P [.ref h0, .int p1, .int p2, .int p3, .int p4, .ref ao] (fun v P' => (∃ (r : Int32) (P1 : pm_T) (fo : Nat → Int64), post (some (.int r)) P1 ∧ P1 ao = some (.inl (ac 1, 1, .inr (.inl fo))) ∧ v = some (.int 0) ∧ P' = pm_up P1 ao (.inl (ac 1, 1, .inr (.inl (vp_updL fo 0 r.toInt64))))) ∨ (xp xn_IOB P' ∧ v = some (.int 1))) := by
  refine cx_ofVH (by decide) (Nat.le_of_ble_eq_true rfl) (fun p e s m below meth c ls hx hb hr hml hg hown hlocks htab hK hw hl => ?_)
  have hl : lv_has ls 7 [(0, .ref h0), (1, .int p1), (2, .int p2), (3, .int p3), (4, .int p4), (5, .ref ao)] := hl
  have hown : s.vm.findClass cn_L = some m.cls := hown
  refine lv_aload hx hb dd_L_near_0 (lv_at hl 5 rfl) ?_
  refine lv_iconst (v := 0) hx hb dd_L_near_2 (by decide) ?_
  refine lv_aload_n hx hb dd_L_near_3 rfl (lv_at hl 0 rfl) ?_
  refine lv_iload_n hx hb dd_L_near_4 rfl (lv_at hl 1 rfl) ?_
  refine lv_iload_n hx hb dd_L_near_5 rfl (lv_at hl 2 rfl) ?_
  refine lv_iload_n hx hb dd_L_near_6 rfl (lv_at hl 3 rfl) ?_
  refine lv_iload hx hb dd_L_near_7 (lv_at hl 4 rfl) ?_
  refine cx_afterX (cx_rVX (n := 4) (As := [.int p1, .int p2, .int p3, .int p4]) (rest := [.int (0 : Int32), .ref ao]) ⟨hx, hb, hml, hown, hg⟩ (hC) (cx_gv gm_L_54 gi_C_near gs_C_near gn_C gc_C_near) (by decide +kernel) ⟨by decide, by decide⟩ hK hw f0 rfl rfl hl.1 rfl (Nat.le_of_ble_eq_true rfl) dd_L_near_9 ⟨by decide, by decide⟩) hw (fun E9 ce9 q9 P9 H locs hp hw hce hcv hcl => ?_) (fun v9 P9 H locs hp hw => ?_)
  · skip
    rcases hxo _ _ hp with rfl
    · refine vx_catch (own := cn_L) (name := xn_IOB) hown [] ⟨0, 14, 17, 15⟩ [] (by rw [htab]; rfl) (fun _ h => nomatch h) (by decide) (by decide) (hg _ gk_L_15) (cx_cast hK (by decide +kernel)) hce hcv hcl ?_
      refine W.eq (g2 := F0 m 17 ls [.ref q9]) rfl ?_
      refine lv_astore (lv' := [(6, .ref q9), (0, .ref h0), (1, .int p1), (2, .int p2), (3, .int p3), (4, .int p4), (5, .ref ao)]) hx hb dd_L_near_17 hl (by decide) rfl (fun ls hl => ?_)
      refine lv_iconst (v := 1) hx hb dd_L_near_19 (by decide) ?_
      refine vx_ret (cx_iret (v := (1 : Int32)) hx hb hr rfl hlocks hw dd_L_near_20 (by decide) (by decide) ?_)
      exact .inr (⟨hp, rfl⟩)
  · skip
    obtain ⟨r, fo, rfl, fo9⟩ := hpo _ _ hp
    refine W.eq (g2 := F0 m 12 ls [.int r, .int (0 : Int32), .ref ao]) rfl ?_
    refine lv_i2l hx hb dd_L_near_12 rfl ?_
    refine pm_last (x := (r).toInt64) hx hb hK.2.1 hw 1 fo9 rfl (show vp_in (0 : Int32) 1 from vp_in_nI (n := 0) (by decide) (by decide)) dd_L_near_13 (fun H locs hw => ?_)
    have hw : pm_W z D cl_w (pm_up P9 ao (.inl (ac 1, 1, .inr (.inl (vp_updL fo ((0 : Int32).toNatClampNeg) ((r).toInt64)))))) s.heap H _ := hw
    obtain ⟨P1, eP1⟩ : ∃ pmv : pm_T, pmv = pm_up P9 ao (.inl (ac 1, 1, .inr (.inl (vp_updL fo ((0 : Int32).toNatClampNeg) ((r).toInt64))))) := ⟨_, rfl⟩
    rw [← eP1] at hw
    have f2 : P1 ao = some (.inl (ac 1, 1, .inr (.inl (vp_updL fo ((0 : Int32).toNatClampNeg) ((r).toInt64))))) := by rw [eP1]; exact pm_s
    refine lv_goto (tgt := 21) hx hb dd_L_near_14 (by decide) ?_
    refine lv_iconst (v := 0) hx hb dd_L_near_21 (by decide) ?_
    refine vx_ret (cx_iret (v := (0 : Int32)) hx hb hr rfl hlocks hw dd_L_near_22 (by decide) (by decide) ?_)
    exact .inl ⟨r, P9, fo, hp, fo9, rfl, by rw [eP1]; rfl⟩

set_option maxHeartbeats 4000000 in
set_option maxRecDepth 100000 in
theorem w_both (l : Launch) (z : Nat) (D : va_G) (ac : Nat → ClassId) (sa : Nat → Nat) (P : pm_T) (h0 ao : Nat) (fs : List Value) (p1 : Int32) (p2 : Int32) (p3 : Int32) (post : Option Value → pm_T → Prop) (xp : String → pm_T → Prop) (hC : cx_V l yy_C_both bb_C_both 9 (some .int) ({ frames := 7, cells := 8, slots := 48, locals := 138 } : Room) z D ac sa P [.ref h0, .int p1, .int p2, .int p3] post xp) (hpo : ∀ v P1, post v P1 → ∃ (r : Int32) (fo : Nat → Int64), v = some (.int r) ∧ P1 ao = some (.inl (ac 1, 1, .inr (.inl fo)))) (hxo : ∀ E P1, xp E P1 → E = xn_IAE ∨ E = xn_IOB ∨ E = xn_ISE ∨ E = xn_ARE) (f0 : P h0 = some (.inr (0, fs))) : cx_VH l yy_L_both bb_L_both 6 (some .int) [(0, 12, 15, 13), (0, 12, 19, 15), (0, 12, 23, 27), (0, 12, 27, 33)] ({ frames := 8, cells := 8, slots := 48, locals := 166 } : Room) z D ac sa P [.ref h0, .int p1, .int p2, .int p3, .ref ao] (fun v P' => (∃ (r : Int32) (P1 : pm_T) (fo : Nat → Int64), post (some (.int r)) P1 ∧ P1 ao = some (.inl (ac 1, 1, .inr (.inl fo))) ∧ v = some (.int 0) ∧ P' = pm_up P1 ao (.inl (ac 1, 1, .inr (.inl (vp_updL fo 0 r.toInt64))))) ∨ (xp xn_IAE P' ∧ v = some (.int 1)) ∨ (xp xn_IOB P' ∧ v = some (.int 2)) ∨ (xp xn_ISE P' ∧ v = some (.int 3)) ∨ (xp xn_ARE P' ∧ v = some (.int 4))) := by
  refine cx_ofVH (by decide) (Nat.le_of_ble_eq_true rfl) (fun p e s m below meth c ls hx hb hr hml hg hown hlocks htab hK hw hl => ?_)
  have hl : lv_has ls 6 [(0, .ref h0), (1, .int p1), (2, .int p2), (3, .int p3), (4, .ref ao)] := hl
  have hown : s.vm.findClass cn_L = some m.cls := hown
  refine lv_aload hx hb dd_L_both_0 (lv_at hl 4 rfl) ?_
  refine lv_iconst (v := 0) hx hb dd_L_both_2 (by decide) ?_
  refine lv_aload_n hx hb dd_L_both_3 rfl (lv_at hl 0 rfl) ?_
  refine lv_iload_n hx hb dd_L_both_4 rfl (lv_at hl 1 rfl) ?_
  refine lv_iload_n hx hb dd_L_both_5 rfl (lv_at hl 2 rfl) ?_
  refine lv_iload_n hx hb dd_L_both_6 rfl (lv_at hl 3 rfl) ?_
  refine cx_afterX (cx_rVX (n := 3) (As := [.int p1, .int p2, .int p3]) (rest := [.int (0 : Int32), .ref ao]) ⟨hx, hb, hml, hown, hg⟩ (hC) (cx_gv gm_L_57 gi_C_both gs_C_both gn_C gc_C_both) (by decide +kernel) ⟨by decide, by decide⟩ hK hw f0 rfl rfl hl.1 rfl (Nat.le_of_ble_eq_true rfl) dd_L_both_7 ⟨by decide, by decide⟩) hw (fun E9 ce9 q9 P9 H locs hp hw hce hcv hcl => ?_) (fun v9 P9 H locs hp hw => ?_)
  · skip
    rcases hxo _ _ hp with rfl | rfl | rfl | rfl
    · refine vx_catch (own := cn_L) (name := xn_IAE) hown [] ⟨0, 12, 15, 13⟩ [⟨0, 12, 19, 15⟩, ⟨0, 12, 23, 27⟩, ⟨0, 12, 27, 33⟩] (by rw [htab]; rfl) (fun _ h => nomatch h) (by decide) (by decide) (hg _ gk_L_13) (cx_cast hK (by decide +kernel)) hce hcv hcl ?_
      refine W.eq (g2 := F0 m 15 ls [.ref q9]) rfl ?_
      refine lv_astore (lv' := [(5, .ref q9), (0, .ref h0), (1, .int p1), (2, .int p2), (3, .int p3), (4, .ref ao)]) hx hb dd_L_both_15 hl (by decide) rfl (fun ls hl => ?_)
      refine lv_iconst (v := 1) hx hb dd_L_both_17 (by decide) ?_
      refine vx_ret (cx_iret (v := (1 : Int32)) hx hb hr rfl hlocks hw dd_L_both_18 (by decide) (by decide) ?_)
      exact .inr (.inl ⟨hp, rfl⟩)
    · refine vx_catch (own := cn_L) (name := xn_IOB) hown [⟨0, 12, 15, 13⟩] ⟨0, 12, 19, 15⟩ [⟨0, 12, 23, 27⟩, ⟨0, 12, 27, 33⟩] (by rw [htab]; rfl) (List.forall_mem_cons.mpr ⟨.inr ⟨by decide, xn_IAE, hg _ gk_L_13, hK.2.2.2.2.1 _ (by decide +kernel : (xn_IOB, xn_IAE) ∈ nc_w)⟩, fun _ h => nomatch h⟩) (by decide) (by decide) (hg _ gk_L_15) (cx_cast hK (by decide +kernel)) hce hcv hcl ?_
      refine W.eq (g2 := F0 m 19 ls [.ref q9]) rfl ?_
      refine lv_astore (lv' := [(5, .ref q9), (0, .ref h0), (1, .int p1), (2, .int p2), (3, .int p3), (4, .ref ao)]) hx hb dd_L_both_19 hl (by decide) rfl (fun ls hl => ?_)
      refine lv_iconst (v := 2) hx hb dd_L_both_21 (by decide) ?_
      refine vx_ret (cx_iret (v := (2 : Int32)) hx hb hr rfl hlocks hw dd_L_both_22 (by decide) (by decide) ?_)
      exact .inr (.inr (.inl ⟨hp, rfl⟩))
    · refine vx_catch (own := cn_L) (name := xn_ISE) hown [⟨0, 12, 15, 13⟩, ⟨0, 12, 19, 15⟩] ⟨0, 12, 23, 27⟩ [⟨0, 12, 27, 33⟩] (by rw [htab]; rfl) (List.forall_mem_cons.mpr ⟨.inr ⟨by decide, xn_IAE, hg _ gk_L_13, hK.2.2.2.2.1 _ (by decide +kernel : (xn_ISE, xn_IAE) ∈ nc_w)⟩, List.forall_mem_cons.mpr ⟨.inr ⟨by decide, xn_IOB, hg _ gk_L_15, hK.2.2.2.2.1 _ (by decide +kernel : (xn_ISE, xn_IOB) ∈ nc_w)⟩, fun _ h => nomatch h⟩⟩) (by decide) (by decide) (hg _ gk_L_27) (cx_cast hK (by decide +kernel)) hce hcv hcl ?_
      refine W.eq (g2 := F0 m 23 ls [.ref q9]) rfl ?_
      refine lv_astore (lv' := [(5, .ref q9), (0, .ref h0), (1, .int p1), (2, .int p2), (3, .int p3), (4, .ref ao)]) hx hb dd_L_both_23 hl (by decide) rfl (fun ls hl => ?_)
      refine lv_iconst (v := 3) hx hb dd_L_both_25 (by decide) ?_
      refine vx_ret (cx_iret (v := (3 : Int32)) hx hb hr rfl hlocks hw dd_L_both_26 (by decide) (by decide) ?_)
      exact .inr (.inr (.inr (.inl ⟨hp, rfl⟩)))
    · refine vx_catch (own := cn_L) (name := xn_ARE) hown [⟨0, 12, 15, 13⟩, ⟨0, 12, 19, 15⟩, ⟨0, 12, 23, 27⟩] ⟨0, 12, 27, 33⟩ [] (by rw [htab]; rfl) (List.forall_mem_cons.mpr ⟨.inr ⟨by decide, xn_IAE, hg _ gk_L_13, hK.2.2.2.2.1 _ (by decide +kernel : (xn_ARE, xn_IAE) ∈ nc_w)⟩, List.forall_mem_cons.mpr ⟨.inr ⟨by decide, xn_IOB, hg _ gk_L_15, hK.2.2.2.2.1 _ (by decide +kernel : (xn_ARE, xn_IOB) ∈ nc_w)⟩, List.forall_mem_cons.mpr ⟨.inr ⟨by decide, xn_ISE, hg _ gk_L_27, hK.2.2.2.2.1 _ (by decide +kernel : (xn_ARE, xn_ISE) ∈ nc_w)⟩, fun _ h => nomatch h⟩⟩⟩) (by decide) (by decide) (hg _ gk_L_33) (cx_cast hK (by decide +kernel)) hce hcv hcl ?_
      refine W.eq (g2 := F0 m 27 ls [.ref q9]) rfl ?_
      refine lv_astore (lv' := [(5, .ref q9), (0, .ref h0), (1, .int p1), (2, .int p2), (3, .int p3), (4, .ref ao)]) hx hb dd_L_both_27 hl (by decide) rfl (fun ls hl => ?_)
      refine lv_iconst (v := 4) hx hb dd_L_both_29 (by decide) ?_
      refine vx_ret (cx_iret (v := (4 : Int32)) hx hb hr rfl hlocks hw dd_L_both_30 (by decide) (by decide) ?_)
      exact .inr (.inr (.inr (.inr (⟨hp, rfl⟩))))
  · skip
    obtain ⟨r, fo, rfl, fo9⟩ := hpo _ _ hp
    refine W.eq (g2 := F0 m 10 ls [.int r, .int (0 : Int32), .ref ao]) rfl ?_
    refine lv_i2l hx hb dd_L_both_10 rfl ?_
    refine pm_last (x := (r).toInt64) hx hb hK.2.1 hw 1 fo9 rfl (show vp_in (0 : Int32) 1 from vp_in_nI (n := 0) (by decide) (by decide)) dd_L_both_11 (fun H locs hw => ?_)
    have hw : pm_W z D cl_w (pm_up P9 ao (.inl (ac 1, 1, .inr (.inl (vp_updL fo ((0 : Int32).toNatClampNeg) ((r).toInt64)))))) s.heap H _ := hw
    obtain ⟨P1, eP1⟩ : ∃ pmv : pm_T, pmv = pm_up P9 ao (.inl (ac 1, 1, .inr (.inl (vp_updL fo ((0 : Int32).toNatClampNeg) ((r).toInt64))))) := ⟨_, rfl⟩
    rw [← eP1] at hw
    have f2 : P1 ao = some (.inl (ac 1, 1, .inr (.inl (vp_updL fo ((0 : Int32).toNatClampNeg) ((r).toInt64))))) := by rw [eP1]; exact pm_s
    refine lv_goto (tgt := 31) hx hb dd_L_both_12 (by decide) ?_
    refine lv_iconst (v := 0) hx hb dd_L_both_31 (by decide) ?_
    refine vx_ret (cx_iret (v := (0 : Int32)) hx hb hr rfl hlocks hw dd_L_both_32 (by decide) (by decide) ?_)
    exact .inl ⟨r, P9, fo, hp, fo9, rfl, by rw [eP1]; rfl⟩

set_option maxHeartbeats 4000000 in
set_option maxRecDepth 100000 in
theorem w_supply (l : Launch) (z : Nat) (D : va_G) (ac : Nat → ClassId) (sa : Nat → Nat) (P : pm_T) (h0 ao : Nat) (fs : List Value) (p1 : Int32) (p2 : Int32) (p3 : Int32) (p4 : Int32) (p5 : Int32) (post : Option Value → pm_T → Prop) (xp : String → pm_T → Prop) (hC : cx_V l yy_C_supply bb_C_supply 8 (some .int) ({ frames := 7, cells := 4, slots := 24, locals := 160 } : Room) z D ac sa P [.ref h0, .int p1, .int p2, .int p3, .int p4, .int p5] post xp) (hpo : ∀ v P1, post v P1 → ∃ (r : Int32) (fo : Nat → Int64), v = some (.int r) ∧ P1 ao = some (.inl (ac 1, 1, .inr (.inl fo)))) (hxo : ∀ E P1, xp E P1 → E = xn_IOB) (f0 : P h0 = some (.inr (0, fs))) : cx_VH l yy_L_supply bb_L_supply 8 (some .int) [(0, 16, 19, 15)] ({ frames := 8, cells := 4, slots := 24, locals := 187 } : Room) z D ac sa P [.ref h0, .int p1, .int p2, .int p3, .int p4, .int p5, .ref ao] (fun v P' => (∃ (r : Int32) (P1 : pm_T) (fo : Nat → Int64), post (some (.int r)) P1 ∧ P1 ao = some (.inl (ac 1, 1, .inr (.inl fo))) ∧ v = some (.int 0) ∧ P' = pm_up P1 ao (.inl (ac 1, 1, .inr (.inl (vp_updL fo 0 r.toInt64))))) ∨ (xp xn_IOB P' ∧ v = some (.int 1))) := by
  refine cx_ofVH (by decide) (Nat.le_of_ble_eq_true rfl) (fun p e s m below meth c ls hx hb hr hml hg hown hlocks htab hK hw hl => ?_)
  have hl : lv_has ls 8 [(0, .ref h0), (1, .int p1), (2, .int p2), (3, .int p3), (4, .int p4), (5, .int p5), (6, .ref ao)] := hl
  have hown : s.vm.findClass cn_L = some m.cls := hown
  refine lv_aload hx hb dd_L_supply_0 (lv_at hl 6 rfl) ?_
  refine lv_iconst (v := 0) hx hb dd_L_supply_2 (by decide) ?_
  refine lv_aload_n hx hb dd_L_supply_3 rfl (lv_at hl 0 rfl) ?_
  refine lv_iload_n hx hb dd_L_supply_4 rfl (lv_at hl 1 rfl) ?_
  refine lv_iload_n hx hb dd_L_supply_5 rfl (lv_at hl 2 rfl) ?_
  refine lv_iload_n hx hb dd_L_supply_6 rfl (lv_at hl 3 rfl) ?_
  refine lv_iload hx hb dd_L_supply_7 (lv_at hl 4 rfl) ?_
  refine lv_iload hx hb dd_L_supply_9 (lv_at hl 5 rfl) ?_
  refine cx_afterX (cx_rVX (n := 5) (As := [.int p1, .int p2, .int p3, .int p4, .int p5]) (rest := [.int (0 : Int32), .ref ao]) ⟨hx, hb, hml, hown, hg⟩ (hC) (cx_gv gm_L_60 gi_C_supply gs_C_supply gn_C gc_C_supply) (by decide +kernel) ⟨by decide, by decide⟩ hK hw f0 rfl rfl hl.1 rfl (Nat.le_of_ble_eq_true rfl) dd_L_supply_11 ⟨by decide, by decide⟩) hw (fun E9 ce9 q9 P9 H locs hp hw hce hcv hcl => ?_) (fun v9 P9 H locs hp hw => ?_)
  · skip
    rcases hxo _ _ hp with rfl
    · refine vx_catch (own := cn_L) (name := xn_IOB) hown [] ⟨0, 16, 19, 15⟩ [] (by rw [htab]; rfl) (fun _ h => nomatch h) (by decide) (by decide) (hg _ gk_L_15) (cx_cast hK (by decide +kernel)) hce hcv hcl ?_
      refine W.eq (g2 := F0 m 19 ls [.ref q9]) rfl ?_
      refine lv_astore (lv' := [(7, .ref q9), (0, .ref h0), (1, .int p1), (2, .int p2), (3, .int p3), (4, .int p4), (5, .int p5), (6, .ref ao)]) hx hb dd_L_supply_19 hl (by decide) rfl (fun ls hl => ?_)
      refine lv_iconst (v := 1) hx hb dd_L_supply_21 (by decide) ?_
      refine vx_ret (cx_iret (v := (1 : Int32)) hx hb hr rfl hlocks hw dd_L_supply_22 (by decide) (by decide) ?_)
      exact .inr (⟨hp, rfl⟩)
  · skip
    obtain ⟨r, fo, rfl, fo9⟩ := hpo _ _ hp
    refine W.eq (g2 := F0 m 14 ls [.int r, .int (0 : Int32), .ref ao]) rfl ?_
    refine lv_i2l hx hb dd_L_supply_14 rfl ?_
    refine pm_last (x := (r).toInt64) hx hb hK.2.1 hw 1 fo9 rfl (show vp_in (0 : Int32) 1 from vp_in_nI (n := 0) (by decide) (by decide)) dd_L_supply_15 (fun H locs hw => ?_)
    have hw : pm_W z D cl_w (pm_up P9 ao (.inl (ac 1, 1, .inr (.inl (vp_updL fo ((0 : Int32).toNatClampNeg) ((r).toInt64)))))) s.heap H _ := hw
    obtain ⟨P1, eP1⟩ : ∃ pmv : pm_T, pmv = pm_up P9 ao (.inl (ac 1, 1, .inr (.inl (vp_updL fo ((0 : Int32).toNatClampNeg) ((r).toInt64))))) := ⟨_, rfl⟩
    rw [← eP1] at hw
    have f2 : P1 ao = some (.inl (ac 1, 1, .inr (.inl (vp_updL fo ((0 : Int32).toNatClampNeg) ((r).toInt64))))) := by rw [eP1]; exact pm_s
    refine lv_goto (tgt := 23) hx hb dd_L_supply_16 (by decide) ?_
    refine lv_iconst (v := 0) hx hb dd_L_supply_23 (by decide) ?_
    refine vx_ret (cx_iret (v := (0 : Int32)) hx hb hr rfl hlocks hw dd_L_supply_24 (by decide) (by decide) ?_)
    exact .inl ⟨r, P9, fo, hp, fo9, rfl, by rw [eP1]; rfl⟩

set_option maxHeartbeats 4000000 in
set_option maxRecDepth 100000 in
theorem w_round (l : Launch) (z : Nat) (D : va_G) (ac : Nat → ClassId) (sa : Nat → Nat) (P : pm_T) (h0 ao : Nat) (fs : List Value) (p1 : Int64) (p3 : Int32) (post : Option Value → pm_T → Prop) (xp : String → pm_T → Prop) (hC : cx_V l yy_C_round bb_C_round 11 (some .int) ({ frames := 12, cells := 8, slots := 48, locals := 360 } : Room) z D ac sa P [.ref h0, .long p1, .int p3] post xp) (hpo : ∀ v P1, post v P1 → ∃ (r : Int32) (fo : Nat → Int64), v = some (.int r) ∧ P1 ao = some (.inl (ac 1, 1, .inr (.inl fo)))) (hxo : ∀ E P1, xp E P1 → E = xn_IAE ∨ E = xn_IOB) (f0 : P h0 = some (.inr (0, fs))) : cx_VH l yy_L_round bb_L_round 6 (some .int) [(0, 11, 14, 13), (0, 11, 18, 15)] ({ frames := 13, cells := 8, slots := 48, locals := 390 } : Room) z D ac sa P [.ref h0, .long p1, .int p3, .ref ao] (fun v P' => (∃ (r : Int32) (P1 : pm_T) (fo : Nat → Int64), post (some (.int r)) P1 ∧ P1 ao = some (.inl (ac 1, 1, .inr (.inl fo))) ∧ v = some (.int 0) ∧ P' = pm_up P1 ao (.inl (ac 1, 1, .inr (.inl (vp_updL fo 0 r.toInt64))))) ∨ (xp xn_IAE P' ∧ v = some (.int 1)) ∨ (xp xn_IOB P' ∧ v = some (.int 2))) := by
  refine cx_ofVH (by decide) (Nat.le_of_ble_eq_true rfl) (fun p e s m below meth c ls hx hb hr hml hg hown hlocks htab hK hw hl => ?_)
  have hl : lv_has ls 6 [(0, .ref h0), (1, .long p1), (3, .int p3), (4, .ref ao)] := hl
  have hown : s.vm.findClass cn_L = some m.cls := hown
  refine lv_aload hx hb dd_L_round_0 (lv_at hl 3 rfl) ?_
  refine lv_iconst (v := 0) hx hb dd_L_round_2 (by decide) ?_
  refine lv_aload_n hx hb dd_L_round_3 rfl (lv_at hl 0 rfl) ?_
  refine lv_lload_n hx hb dd_L_round_4 rfl (lv_at hl 1 rfl) ?_
  refine lv_iload_n hx hb dd_L_round_5 rfl (lv_at hl 2 rfl) ?_
  refine cx_afterX (cx_rVX (n := 2) (As := [.long p1, .int p3]) (rest := [.int (0 : Int32), .ref ao]) ⟨hx, hb, hml, hown, hg⟩ (hC) (cx_gv gm_L_63 gi_C_round gs_C_round gn_C gc_C_round) (by decide +kernel) ⟨by decide, by decide⟩ hK hw f0 rfl rfl hl.1 rfl (Nat.le_of_ble_eq_true rfl) dd_L_round_6 ⟨by decide, by decide⟩) hw (fun E9 ce9 q9 P9 H locs hp hw hce hcv hcl => ?_) (fun v9 P9 H locs hp hw => ?_)
  · skip
    rcases hxo _ _ hp with rfl | rfl
    · refine vx_catch (own := cn_L) (name := xn_IAE) hown [] ⟨0, 11, 14, 13⟩ [⟨0, 11, 18, 15⟩] (by rw [htab]; rfl) (fun _ h => nomatch h) (by decide) (by decide) (hg _ gk_L_13) (cx_cast hK (by decide +kernel)) hce hcv hcl ?_
      refine W.eq (g2 := F0 m 14 ls [.ref q9]) rfl ?_
      refine lv_astore (lv' := [(5, .ref q9), (0, .ref h0), (1, .long p1), (3, .int p3), (4, .ref ao)]) hx hb dd_L_round_14 hl (by decide) rfl (fun ls hl => ?_)
      refine lv_iconst (v := 1) hx hb dd_L_round_16 (by decide) ?_
      refine vx_ret (cx_iret (v := (1 : Int32)) hx hb hr rfl hlocks hw dd_L_round_17 (by decide) (by decide) ?_)
      exact .inr (.inl ⟨hp, rfl⟩)
    · refine vx_catch (own := cn_L) (name := xn_IOB) hown [⟨0, 11, 14, 13⟩] ⟨0, 11, 18, 15⟩ [] (by rw [htab]; rfl) (List.forall_mem_cons.mpr ⟨.inr ⟨by decide, xn_IAE, hg _ gk_L_13, hK.2.2.2.2.1 _ (by decide +kernel : (xn_IOB, xn_IAE) ∈ nc_w)⟩, fun _ h => nomatch h⟩) (by decide) (by decide) (hg _ gk_L_15) (cx_cast hK (by decide +kernel)) hce hcv hcl ?_
      refine W.eq (g2 := F0 m 18 ls [.ref q9]) rfl ?_
      refine lv_astore (lv' := [(5, .ref q9), (0, .ref h0), (1, .long p1), (3, .int p3), (4, .ref ao)]) hx hb dd_L_round_18 hl (by decide) rfl (fun ls hl => ?_)
      refine lv_iconst (v := 2) hx hb dd_L_round_20 (by decide) ?_
      refine vx_ret (cx_iret (v := (2 : Int32)) hx hb hr rfl hlocks hw dd_L_round_21 (by decide) (by decide) ?_)
      exact .inr (.inr (⟨hp, rfl⟩))
  · skip
    obtain ⟨r, fo, rfl, fo9⟩ := hpo _ _ hp
    refine W.eq (g2 := F0 m 9 ls [.int r, .int (0 : Int32), .ref ao]) rfl ?_
    refine lv_i2l hx hb dd_L_round_9 rfl ?_
    refine pm_last (x := (r).toInt64) hx hb hK.2.1 hw 1 fo9 rfl (show vp_in (0 : Int32) 1 from vp_in_nI (n := 0) (by decide) (by decide)) dd_L_round_10 (fun H locs hw => ?_)
    have hw : pm_W z D cl_w (pm_up P9 ao (.inl (ac 1, 1, .inr (.inl (vp_updL fo ((0 : Int32).toNatClampNeg) ((r).toInt64)))))) s.heap H _ := hw
    obtain ⟨P1, eP1⟩ : ∃ pmv : pm_T, pmv = pm_up P9 ao (.inl (ac 1, 1, .inr (.inl (vp_updL fo ((0 : Int32).toNatClampNeg) ((r).toInt64))))) := ⟨_, rfl⟩
    rw [← eP1] at hw
    have f2 : P1 ao = some (.inl (ac 1, 1, .inr (.inl (vp_updL fo ((0 : Int32).toNatClampNeg) ((r).toInt64))))) := by rw [eP1]; exact pm_s
    refine lv_goto (tgt := 22) hx hb dd_L_round_11 (by decide) ?_
    refine lv_iconst (v := 0) hx hb dd_L_round_22 (by decide) ?_
    refine vx_ret (cx_iret (v := (0 : Int32)) hx hb hr rfl hlocks hw dd_L_round_23 (by decide) (by decide) ?_)
    exact .inl ⟨r, P9, fo, hp, fo9, rfl, by rw [eP1]; rfl⟩

set_option maxHeartbeats 4000000 in
set_option maxRecDepth 100000 in
theorem w_stop (l : Launch) (z : Nat) (D : va_G) (ac : Nat → ClassId) (sa : Nat → Nat) (P : pm_T) (h0 ao : Nat) (fs : List Value) (p1 : Int32) (post : Option Value → pm_T → Prop) (xp : String → pm_T → Prop) (hC : cx_V l yy_C_stop bb_C_stop 2 (some .int) ({ frames := 7, cells := 1, slots := 6, locals := 138 } : Room) z D ac sa P [.ref h0, .int p1] post xp) (hpo : ∀ v P1, post v P1 → ∃ (r : Int32) (fo : Nat → Int64), v = some (.int r) ∧ P1 ao = some (.inl (ac 1, 1, .inr (.inl fo)))) (hxo : ∀ E P1, xp E P1 → E = xn_IOB) (f0 : P h0 = some (.inr (0, fs))) : cx_VH l yy_L_stop bb_L_stop 4 (some .int) [(0, 9, 12, 15)] ({ frames := 8, cells := 1, slots := 6, locals := 159 } : Room) z D ac sa P [.ref h0, .int p1, .ref ao] (fun v P' => (∃ (r : Int32) (P1 : pm_T) (fo : Nat → Int64), post (some (.int r)) P1 ∧ P1 ao = some (.inl (ac 1, 1, .inr (.inl fo))) ∧ v = some (.int 0) ∧ P' = pm_up P1 ao (.inl (ac 1, 1, .inr (.inl (vp_updL fo 0 r.toInt64))))) ∨ (xp xn_IOB P' ∧ v = some (.int 1))) := by
  refine cx_ofVH (by decide) (Nat.le_of_ble_eq_true rfl) (fun p e s m below meth c ls hx hb hr hml hg hown hlocks htab hK hw hl => ?_)
  have hl : lv_has ls 4 [(0, .ref h0), (1, .int p1), (2, .ref ao)] := hl
  have hown : s.vm.findClass cn_L = some m.cls := hown
  refine lv_aload_n hx hb dd_L_stop_0 rfl (lv_at hl 2 rfl) ?_
  refine lv_iconst (v := 0) hx hb dd_L_stop_1 (by decide) ?_
  refine lv_aload_n hx hb dd_L_stop_2 rfl (lv_at hl 0 rfl) ?_
  refine lv_iload_n hx hb dd_L_stop_3 rfl (lv_at hl 1 rfl) ?_
  refine cx_afterX (cx_rVX (n := 1) (As := [.int p1]) (rest := [.int (0 : Int32), .ref ao]) ⟨hx, hb, hml, hown, hg⟩ (hC) (cx_gv gm_L_67 gi_C_stop gs_C_stop gn_C gc_C_stop) (by decide +kernel) ⟨by decide, by decide⟩ hK hw f0 rfl rfl hl.1 rfl (Nat.le_of_ble_eq_true rfl) dd_L_stop_4 ⟨by decide, by decide⟩) hw (fun E9 ce9 q9 P9 H locs hp hw hce hcv hcl => ?_) (fun v9 P9 H locs hp hw => ?_)
  · skip
    rcases hxo _ _ hp with rfl
    · refine vx_catch (own := cn_L) (name := xn_IOB) hown [] ⟨0, 9, 12, 15⟩ [] (by rw [htab]; rfl) (fun _ h => nomatch h) (by decide) (by decide) (hg _ gk_L_15) (cx_cast hK (by decide +kernel)) hce hcv hcl ?_
      refine W.eq (g2 := F0 m 12 ls [.ref q9]) rfl ?_
      refine lv_astore_n (lv' := [(3, .ref q9), (0, .ref h0), (1, .int p1), (2, .ref ao)]) hx hb dd_L_stop_12 rfl hl (by decide) rfl (fun ls hl => ?_)
      refine lv_iconst (v := 1) hx hb dd_L_stop_13 (by decide) ?_
      refine vx_ret (cx_iret (v := (1 : Int32)) hx hb hr rfl hlocks hw dd_L_stop_14 (by decide) (by decide) ?_)
      exact .inr (⟨hp, rfl⟩)
  · skip
    obtain ⟨r, fo, rfl, fo9⟩ := hpo _ _ hp
    refine W.eq (g2 := F0 m 7 ls [.int r, .int (0 : Int32), .ref ao]) rfl ?_
    refine lv_i2l hx hb dd_L_stop_7 rfl ?_
    refine pm_last (x := (r).toInt64) hx hb hK.2.1 hw 1 fo9 rfl (show vp_in (0 : Int32) 1 from vp_in_nI (n := 0) (by decide) (by decide)) dd_L_stop_8 (fun H locs hw => ?_)
    have hw : pm_W z D cl_w (pm_up P9 ao (.inl (ac 1, 1, .inr (.inl (vp_updL fo ((0 : Int32).toNatClampNeg) ((r).toInt64)))))) s.heap H _ := hw
    obtain ⟨P1, eP1⟩ : ∃ pmv : pm_T, pmv = pm_up P9 ao (.inl (ac 1, 1, .inr (.inl (vp_updL fo ((0 : Int32).toNatClampNeg) ((r).toInt64))))) := ⟨_, rfl⟩
    rw [← eP1] at hw
    have f2 : P1 ao = some (.inl (ac 1, 1, .inr (.inl (vp_updL fo ((0 : Int32).toNatClampNeg) ((r).toInt64))))) := by rw [eP1]; exact pm_s
    refine lv_goto (tgt := 15) hx hb dd_L_stop_9 (by decide) ?_
    refine lv_iconst (v := 0) hx hb dd_L_stop_15 (by decide) ?_
    refine vx_ret (cx_iret (v := (0 : Int32)) hx hb hr rfl hlocks hw dd_L_stop_16 (by decide) (by decide) ?_)
    exact .inl ⟨r, P9, fo, hp, fo9, rfl, by rw [eP1]; rfl⟩

set_option maxHeartbeats 4000000 in
set_option maxRecDepth 100000 in
theorem w_overdue (l : Launch) (z : Nat) (D : va_G) (ac : Nat → ClassId) (sa : Nat → Nat) (P : pm_T) (h0 ao : Nat) (fs : List Value) (p1 : Int32) (p2 : Int32) (p3 : Int32) (post : Option Value → pm_T → Prop) (xp : String → pm_T → Prop) (hC : cx_V l yy_C_overdue bb_C_overdue 8 (some .int) ({ frames := 7, cells := 2, slots := 12, locals := 111 } : Room) z D ac sa P [.ref h0, .int p1, .int p2, .int p3] post xp) (hpo : ∀ v P1, post v P1 → ∃ (r : Int32) (fo : Nat → Int64), v = some (.int r) ∧ P1 ao = some (.inl (ac 1, 1, .inr (.inl fo)))) (hxo : ∀ E P1, xp E P1 → E = xn_IOB) (f0 : P h0 = some (.inr (0, fs))) : cx_VH l yy_L_overdue bb_L_overdue 6 (some .int) [(0, 12, 15, 15)] ({ frames := 8, cells := 2, slots := 12, locals := 138 } : Room) z D ac sa P [.ref h0, .int p1, .int p2, .int p3, .ref ao] (fun v P' => (∃ (r : Int32) (P1 : pm_T) (fo : Nat → Int64), post (some (.int r)) P1 ∧ P1 ao = some (.inl (ac 1, 1, .inr (.inl fo))) ∧ v = some (.int 0) ∧ P' = pm_up P1 ao (.inl (ac 1, 1, .inr (.inl (vp_updL fo 0 r.toInt64))))) ∨ (xp xn_IOB P' ∧ v = some (.int 1))) := by
  refine cx_ofVH (by decide) (Nat.le_of_ble_eq_true rfl) (fun p e s m below meth c ls hx hb hr hml hg hown hlocks htab hK hw hl => ?_)
  have hl : lv_has ls 6 [(0, .ref h0), (1, .int p1), (2, .int p2), (3, .int p3), (4, .ref ao)] := hl
  have hown : s.vm.findClass cn_L = some m.cls := hown
  refine lv_aload hx hb dd_L_overdue_0 (lv_at hl 4 rfl) ?_
  refine lv_iconst (v := 0) hx hb dd_L_overdue_2 (by decide) ?_
  refine lv_aload_n hx hb dd_L_overdue_3 rfl (lv_at hl 0 rfl) ?_
  refine lv_iload_n hx hb dd_L_overdue_4 rfl (lv_at hl 1 rfl) ?_
  refine lv_iload_n hx hb dd_L_overdue_5 rfl (lv_at hl 2 rfl) ?_
  refine lv_iload_n hx hb dd_L_overdue_6 rfl (lv_at hl 3 rfl) ?_
  refine cx_afterX (cx_rVX (n := 3) (As := [.int p1, .int p2, .int p3]) (rest := [.int (0 : Int32), .ref ao]) ⟨hx, hb, hml, hown, hg⟩ (hC) (cx_gv gm_L_70 gi_C_overdue gs_C_overdue gn_C gc_C_overdue) (by decide +kernel) ⟨by decide, by decide⟩ hK hw f0 rfl rfl hl.1 rfl (Nat.le_of_ble_eq_true rfl) dd_L_overdue_7 ⟨by decide, by decide⟩) hw (fun E9 ce9 q9 P9 H locs hp hw hce hcv hcl => ?_) (fun v9 P9 H locs hp hw => ?_)
  · skip
    rcases hxo _ _ hp with rfl
    · refine vx_catch (own := cn_L) (name := xn_IOB) hown [] ⟨0, 12, 15, 15⟩ [] (by rw [htab]; rfl) (fun _ h => nomatch h) (by decide) (by decide) (hg _ gk_L_15) (cx_cast hK (by decide +kernel)) hce hcv hcl ?_
      refine W.eq (g2 := F0 m 15 ls [.ref q9]) rfl ?_
      refine lv_astore (lv' := [(5, .ref q9), (0, .ref h0), (1, .int p1), (2, .int p2), (3, .int p3), (4, .ref ao)]) hx hb dd_L_overdue_15 hl (by decide) rfl (fun ls hl => ?_)
      refine lv_iconst (v := 1) hx hb dd_L_overdue_17 (by decide) ?_
      refine vx_ret (cx_iret (v := (1 : Int32)) hx hb hr rfl hlocks hw dd_L_overdue_18 (by decide) (by decide) ?_)
      exact .inr (⟨hp, rfl⟩)
  · skip
    obtain ⟨r, fo, rfl, fo9⟩ := hpo _ _ hp
    refine W.eq (g2 := F0 m 10 ls [.int r, .int (0 : Int32), .ref ao]) rfl ?_
    refine lv_i2l hx hb dd_L_overdue_10 rfl ?_
    refine pm_last (x := (r).toInt64) hx hb hK.2.1 hw 1 fo9 rfl (show vp_in (0 : Int32) 1 from vp_in_nI (n := 0) (by decide) (by decide)) dd_L_overdue_11 (fun H locs hw => ?_)
    have hw : pm_W z D cl_w (pm_up P9 ao (.inl (ac 1, 1, .inr (.inl (vp_updL fo ((0 : Int32).toNatClampNeg) ((r).toInt64)))))) s.heap H _ := hw
    obtain ⟨P1, eP1⟩ : ∃ pmv : pm_T, pmv = pm_up P9 ao (.inl (ac 1, 1, .inr (.inl (vp_updL fo ((0 : Int32).toNatClampNeg) ((r).toInt64))))) := ⟨_, rfl⟩
    rw [← eP1] at hw
    have f2 : P1 ao = some (.inl (ac 1, 1, .inr (.inl (vp_updL fo ((0 : Int32).toNatClampNeg) ((r).toInt64))))) := by rw [eP1]; exact pm_s
    refine lv_goto (tgt := 19) hx hb dd_L_overdue_12 (by decide) ?_
    refine lv_iconst (v := 0) hx hb dd_L_overdue_19 (by decide) ?_
    refine vx_ret (cx_iret (v := (0 : Int32)) hx hb hr rfl hlocks hw dd_L_overdue_20 (by decide) (by decide) ?_)
    exact .inl ⟨r, P9, fo, hp, fo9, rfl, by rw [eP1]; rfl⟩

set_option maxHeartbeats 4000000 in
set_option maxRecDepth 100000 in
theorem w_testAt (l : Launch) (z : Nat) (D : va_G) (ac : Nat → ClassId) (sa : Nat → Nat) (P : pm_T) (h0 ao : Nat) (fs : List Value) (p1 : Int32) (p2 : Int32) (post : Option Value → pm_T → Prop) (xp : String → pm_T → Prop) (hC : cx_V l yy_C_testAt bb_C_testAt 4 (some .int) ({ frames := 7, cells := 1, slots := 6, locals := 138 } : Room) z D ac sa P [.ref h0, .int p1, .int p2] post xp) (hpo : ∀ v P1, post v P1 → ∃ (r : Int32) (fo : Nat → Int64), v = some (.int r) ∧ P1 ao = some (.inl (ac 1, 1, .inr (.inl fo)))) (hxo : ∀ E P1, xp E P1 → E = xn_IAE) (f0 : P h0 = some (.inr (0, fs))) : cx_VH l yy_L_testAt bb_L_testAt 5 (some .int) [(0, 10, 13, 13)] ({ frames := 8, cells := 1, slots := 6, locals := 161 } : Room) z D ac sa P [.ref h0, .int p1, .int p2, .ref ao] (fun v P' => (∃ (r : Int32) (P1 : pm_T) (fo : Nat → Int64), post (some (.int r)) P1 ∧ P1 ao = some (.inl (ac 1, 1, .inr (.inl fo))) ∧ v = some (.int 0) ∧ P' = pm_up P1 ao (.inl (ac 1, 1, .inr (.inl (vp_updL fo 0 r.toInt64))))) ∨ (xp xn_IAE P' ∧ v = some (.int 1))) := by
  refine cx_ofVH (by decide) (Nat.le_of_ble_eq_true rfl) (fun p e s m below meth c ls hx hb hr hml hg hown hlocks htab hK hw hl => ?_)
  have hl : lv_has ls 5 [(0, .ref h0), (1, .int p1), (2, .int p2), (3, .ref ao)] := hl
  have hown : s.vm.findClass cn_L = some m.cls := hown
  refine lv_aload_n hx hb dd_L_testAt_0 rfl (lv_at hl 3 rfl) ?_
  refine lv_iconst (v := 0) hx hb dd_L_testAt_1 (by decide) ?_
  refine lv_aload_n hx hb dd_L_testAt_2 rfl (lv_at hl 0 rfl) ?_
  refine lv_iload_n hx hb dd_L_testAt_3 rfl (lv_at hl 1 rfl) ?_
  refine lv_iload_n hx hb dd_L_testAt_4 rfl (lv_at hl 2 rfl) ?_
  refine cx_afterX (cx_rVX (n := 2) (As := [.int p1, .int p2]) (rest := [.int (0 : Int32), .ref ao]) ⟨hx, hb, hml, hown, hg⟩ (hC) (cx_gv gm_L_73 gi_C_testAt gs_C_testAt gn_C gc_C_testAt) (by decide +kernel) ⟨by decide, by decide⟩ hK hw f0 rfl rfl hl.1 rfl (Nat.le_of_ble_eq_true rfl) dd_L_testAt_5 ⟨by decide, by decide⟩) hw (fun E9 ce9 q9 P9 H locs hp hw hce hcv hcl => ?_) (fun v9 P9 H locs hp hw => ?_)
  · skip
    rcases hxo _ _ hp with rfl
    · refine vx_catch (own := cn_L) (name := xn_IAE) hown [] ⟨0, 10, 13, 13⟩ [] (by rw [htab]; rfl) (fun _ h => nomatch h) (by decide) (by decide) (hg _ gk_L_13) (cx_cast hK (by decide +kernel)) hce hcv hcl ?_
      refine W.eq (g2 := F0 m 13 ls [.ref q9]) rfl ?_
      refine lv_astore (lv' := [(4, .ref q9), (0, .ref h0), (1, .int p1), (2, .int p2), (3, .ref ao)]) hx hb dd_L_testAt_13 hl (by decide) rfl (fun ls hl => ?_)
      refine lv_iconst (v := 1) hx hb dd_L_testAt_15 (by decide) ?_
      refine vx_ret (cx_iret (v := (1 : Int32)) hx hb hr rfl hlocks hw dd_L_testAt_16 (by decide) (by decide) ?_)
      exact .inr (⟨hp, rfl⟩)
  · skip
    obtain ⟨r, fo, rfl, fo9⟩ := hpo _ _ hp
    refine W.eq (g2 := F0 m 8 ls [.int r, .int (0 : Int32), .ref ao]) rfl ?_
    refine lv_i2l hx hb dd_L_testAt_8 rfl ?_
    refine pm_last (x := (r).toInt64) hx hb hK.2.1 hw 1 fo9 rfl (show vp_in (0 : Int32) 1 from vp_in_nI (n := 0) (by decide) (by decide)) dd_L_testAt_9 (fun H locs hw => ?_)
    have hw : pm_W z D cl_w (pm_up P9 ao (.inl (ac 1, 1, .inr (.inl (vp_updL fo ((0 : Int32).toNatClampNeg) ((r).toInt64)))))) s.heap H _ := hw
    obtain ⟨P1, eP1⟩ : ∃ pmv : pm_T, pmv = pm_up P9 ao (.inl (ac 1, 1, .inr (.inl (vp_updL fo ((0 : Int32).toNatClampNeg) ((r).toInt64))))) := ⟨_, rfl⟩
    rw [← eP1] at hw
    have f2 : P1 ao = some (.inl (ac 1, 1, .inr (.inl (vp_updL fo ((0 : Int32).toNatClampNeg) ((r).toInt64))))) := by rw [eP1]; exact pm_s
    refine lv_goto (tgt := 17) hx hb dd_L_testAt_10 (by decide) ?_
    refine lv_iconst (v := 0) hx hb dd_L_testAt_17 (by decide) ?_
    refine vx_ret (cx_iret (v := (0 : Int32)) hx hb hr rfl hlocks hw dd_L_testAt_18 (by decide) (by decide) ?_)
    exact .inl ⟨r, P9, fo, hp, fo9, rfl, by rw [eP1]; rfl⟩

set_option maxHeartbeats 4000000 in
set_option maxRecDepth 100000 in
theorem w_hydrantAt (l : Launch) (z : Nat) (D : va_G) (ac : Nat → ClassId) (sa : Nat → Nat) (P : pm_T) (h0 ao : Nat) (fs : List Value) (p1 : Int32) (p2 : Int32) (post : Option Value → pm_T → Prop) (xp : String → pm_T → Prop) (hC : cx_V l yy_C_hydrantAt bb_C_hydrantAt 4 (some .int) ({ frames := 7, cells := 2, slots := 12, locals := 138 } : Room) z D ac sa P [.ref h0, .int p1, .int p2] post xp) (hpo : ∀ v P1, post v P1 → ∃ (r : Int32) (fo : Nat → Int64), v = some (.int r) ∧ P1 ao = some (.inl (ac 1, 1, .inr (.inl fo)))) (hxo : ∀ E P1, xp E P1 → E = xn_IAE) (f0 : P h0 = some (.inr (0, fs))) : cx_VH l yy_L_hydrantAt bb_L_hydrantAt 5 (some .int) [(0, 10, 13, 13)] ({ frames := 8, cells := 2, slots := 12, locals := 161 } : Room) z D ac sa P [.ref h0, .int p1, .int p2, .ref ao] (fun v P' => (∃ (r : Int32) (P1 : pm_T) (fo : Nat → Int64), post (some (.int r)) P1 ∧ P1 ao = some (.inl (ac 1, 1, .inr (.inl fo))) ∧ v = some (.int 0) ∧ P' = pm_up P1 ao (.inl (ac 1, 1, .inr (.inl (vp_updL fo 0 r.toInt64))))) ∨ (xp xn_IAE P' ∧ v = some (.int 1))) := by
  refine cx_ofVH (by decide) (Nat.le_of_ble_eq_true rfl) (fun p e s m below meth c ls hx hb hr hml hg hown hlocks htab hK hw hl => ?_)
  have hl : lv_has ls 5 [(0, .ref h0), (1, .int p1), (2, .int p2), (3, .ref ao)] := hl
  have hown : s.vm.findClass cn_L = some m.cls := hown
  refine lv_aload_n hx hb dd_L_hydrantAt_0 rfl (lv_at hl 3 rfl) ?_
  refine lv_iconst (v := 0) hx hb dd_L_hydrantAt_1 (by decide) ?_
  refine lv_aload_n hx hb dd_L_hydrantAt_2 rfl (lv_at hl 0 rfl) ?_
  refine lv_iload_n hx hb dd_L_hydrantAt_3 rfl (lv_at hl 1 rfl) ?_
  refine lv_iload_n hx hb dd_L_hydrantAt_4 rfl (lv_at hl 2 rfl) ?_
  refine cx_afterX (cx_rVX (n := 2) (As := [.int p1, .int p2]) (rest := [.int (0 : Int32), .ref ao]) ⟨hx, hb, hml, hown, hg⟩ (hC) (cx_gv gm_L_77 gi_C_hydrantAt gs_C_hydrantAt gn_C gc_C_hydrantAt) (by decide +kernel) ⟨by decide, by decide⟩ hK hw f0 rfl rfl hl.1 rfl (Nat.le_of_ble_eq_true rfl) dd_L_hydrantAt_5 ⟨by decide, by decide⟩) hw (fun E9 ce9 q9 P9 H locs hp hw hce hcv hcl => ?_) (fun v9 P9 H locs hp hw => ?_)
  · skip
    rcases hxo _ _ hp with rfl
    · refine vx_catch (own := cn_L) (name := xn_IAE) hown [] ⟨0, 10, 13, 13⟩ [] (by rw [htab]; rfl) (fun _ h => nomatch h) (by decide) (by decide) (hg _ gk_L_13) (cx_cast hK (by decide +kernel)) hce hcv hcl ?_
      refine W.eq (g2 := F0 m 13 ls [.ref q9]) rfl ?_
      refine lv_astore (lv' := [(4, .ref q9), (0, .ref h0), (1, .int p1), (2, .int p2), (3, .ref ao)]) hx hb dd_L_hydrantAt_13 hl (by decide) rfl (fun ls hl => ?_)
      refine lv_iconst (v := 1) hx hb dd_L_hydrantAt_15 (by decide) ?_
      refine vx_ret (cx_iret (v := (1 : Int32)) hx hb hr rfl hlocks hw dd_L_hydrantAt_16 (by decide) (by decide) ?_)
      exact .inr (⟨hp, rfl⟩)
  · skip
    obtain ⟨r, fo, rfl, fo9⟩ := hpo _ _ hp
    refine W.eq (g2 := F0 m 8 ls [.int r, .int (0 : Int32), .ref ao]) rfl ?_
    refine lv_i2l hx hb dd_L_hydrantAt_8 rfl ?_
    refine pm_last (x := (r).toInt64) hx hb hK.2.1 hw 1 fo9 rfl (show vp_in (0 : Int32) 1 from vp_in_nI (n := 0) (by decide) (by decide)) dd_L_hydrantAt_9 (fun H locs hw => ?_)
    have hw : pm_W z D cl_w (pm_up P9 ao (.inl (ac 1, 1, .inr (.inl (vp_updL fo ((0 : Int32).toNatClampNeg) ((r).toInt64)))))) s.heap H _ := hw
    obtain ⟨P1, eP1⟩ : ∃ pmv : pm_T, pmv = pm_up P9 ao (.inl (ac 1, 1, .inr (.inl (vp_updL fo ((0 : Int32).toNatClampNeg) ((r).toInt64))))) := ⟨_, rfl⟩
    rw [← eP1] at hw
    have f2 : P1 ao = some (.inl (ac 1, 1, .inr (.inl (vp_updL fo ((0 : Int32).toNatClampNeg) ((r).toInt64))))) := by rw [eP1]; exact pm_s
    refine lv_goto (tgt := 17) hx hb dd_L_hydrantAt_10 (by decide) ?_
    refine lv_iconst (v := 0) hx hb dd_L_hydrantAt_17 (by decide) ?_
    refine vx_ret (cx_iret (v := (0 : Int32)) hx hb hr rfl hlocks hw dd_L_hydrantAt_18 (by decide) (by decide) ?_)
    exact .inl ⟨r, P9, fo, hp, fo9, rfl, by rw [eP1]; rfl⟩
