theorem lw_go {L i : Nat} (hL : L ≤ 3072) (hi : i ≤ 3077) (h : ¬ nI L - 6 < nI i) : i + 6 ≤ L := by
  have e6 : (6 : Int32).toInt = 6 := by decide
  have e1 := nI_toInt (n := L) (by omega)
  have e2 := nI_toInt (n := i) (by omega)
  have e3 := su_ti_sub (x := nI L) (y := 6) (by omega) (by omega)
  rw [Int32.lt_iff_toInt_lt, e3, e1, e2, e6] at h
  omega

set_option maxHeartbeats 4000000 in
set_option maxRecDepth 100000 in
/-- the law's loop -/
theorem law_loop {p : Program} {l : Launch} {e : Env} {s : State} {m : MethodId} {below : List Frame} {meth : Method} {c : Code} {b L : Nat} {xs : Nat → Int32} {D : va_G} {ac : Nat → ClassId} {sa : Nat → Nat} (hT : l.stackTraces = false) (hL : L ≤ 3072) (C0 : lw_B p s m c b L xs s.heap.size D ac sa) (hr : meth.sig.returnType = ret) (hlocks : meth.locks = false) {h0 hm ao : Nat} : ∀ (n j : Nat), L + 6 ≤ 6 * (j + n) → 6 * j ≤ L + 5 → ∀ (P : pm_T) (th : Int32) (H : Heap) (locs : List Loc) (ls : Array Slot), iv_I P ac h0 hm ao th → pm_W s.heap.size D cl_w P s.heap H locs → lv_has ls 7 [(0, .ref b), (1, .ref h0), (2, .ref hm), (3, .ref ao), (4, .int (nI (6 * j)))] → W p l e room_1 s m #[Value.ref b] below meth c H locs (40 + 16 * j) (1900 + 64 * j) (lw_Z below #[Value.ref b] s) (F0 m 23 ls []) := by
  intro n
  induction n with
  | zero =>
    intro j h1 h2
    exact absurd h1 (by omega)
  | succ n ih =>
    intro j h1 h2 P th H locs ls hI hw hl
    obtain ⟨hx, hb, hml, hown, hg, hX, hbl, hbA, hK⟩ := id C0
    refine lv_iload hx hb dd_L_law_23 (lv_at hl 4 rfl) ?_
    refine lv_aload_n hx hb dd_L_law_25 rfl (lv_at hl 0 rfl) ?_
    refine va_slen hx hb hX hbl hbA hw.2.2 dd_L_law_26 ?_
    refine lv_bipush (v := 6) hx hb dd_L_law_27 (by decide) ?_
    refine lv_isub hx hb dd_L_law_29 ?_
    refine lv_icmp_gt (tgt := 1460) hx hb dd_L_law_30 (by decide) (fun c1 => ?_) (fun c1 => ?_)
    · refine lv_iconst (v := 1) hx hb dd_L_law_1460 (by decide) ?_
      refine va_forget (fun q hq => hw.2.2.2.2 q hq) ?_
      refine W.widen (k := 601024) (n := 7293034) (by omega) (by omega) ?_
      exact lw_ret hx hb hr hlocks dd_L_law_1461
    · have hi : 6 * j + 6 ≤ L := lw_go hL (by omega) c1
      have hcs : 40 + 16 * j + 16 ≤ room_1.cells ∧ 1900 + 64 * j + 64 ≤ room_1.slots := ⟨show _ ≤ 601024 by omega, show _ ≤ 7293034 by omega⟩
      have bk : ∀ (P : pm_T) (th : Int32) (H : Heap) (locs : List Loc) (ls : Array Slot), iv_I P ac h0 hm ao th → pm_W s.heap.size D cl_w P s.heap H locs → lv_has ls 7 [(0, .ref b), (1, .ref h0), (2, .ref hm), (3, .ref ao), (4, .int (nI (6 * j)))] → W p l e room_1 s m #[Value.ref b] below meth c H locs (40 + 16 * j + 16) (1900 + 64 * j + 64) (lw_Z below #[Value.ref b] s) (F0 m 1454 ls []) := by
        intro P th H locs ls hI hw hl
        refine lv_iinc (v := nI (6 * (j + 1))) (lv' := [(4, .int (nI (6 * (j + 1)))), (0, .ref b), (1, .ref h0), (2, .ref hm), (3, .ref ao)]) hx hb dd_L_law_1454 hl (k := 4) rfl (by rw [show 6 * (j + 1) = 6 * j + 6 from by omega, ← nI_add]; rfl) (by decide) rfl (fun ls hl => ?_)
        refine lv_goto (tgt := 23) hx hb dd_L_law_1457 (by decide) ?_
        refine W.widen (k := 40 + 16 * (j + 1)) (n := 1900 + 64 * (j + 1)) (by omega) (by omega) ?_
        exact ih (j + 1) (by omega) (by omega) P th H locs ls hI hw (lv_sub hl [1, 2, 3, 4, 0] rfl)
      refine lv_aload_n hx hb dd_L_law_33 rfl (lv_at hl 0 rfl) ?_
      refine lv_iload hx hb dd_L_law_34 (lv_at hl 4 rfl) ?_
      refine va_sld hx hb hX hbl hbA hw.2.2 (vp_in_nI (show 6 * j < L by omega) (by omega)) dd_L_law_36 ?_
      refine lv_bipush (v := 31) hx hb dd_L_law_37 (by decide) ?_
      refine lv_iand hx hb dd_L_law_39 ?_
      refine lv_topi (fun x18 ex18 => ?_)
      rcases su_sw18 x18 with h | h | h | h | h | h | h | h | h | h | h | h | h | h | h | h | h | h | h
      · refine lv_tableIn (tgt := 128) hx hb dd_L_law_40 (by rw [h]; decide) (by rw [h]; decide) (by rw [h]; rfl) (by decide) ?_
        exact lw_c0 hT hL C0 hi hcs hI hw hl bk
      · refine lv_tableIn (tgt := 220) hx hb dd_L_law_40 (by rw [h]; decide) (by rw [h]; decide) (by rw [h]; rfl) (by decide) ?_
        exact lw_c1 hT hL C0 hi hcs hI hw hl bk
      · refine lv_tableIn (tgt := 268) hx hb dd_L_law_40 (by rw [h]; decide) (by rw [h]; decide) (by rw [h]; rfl) (by decide) ?_
        exact lw_c2 hT hL C0 hi hcs hI hw hl bk
      · refine lv_tableIn (tgt := 307) hx hb dd_L_law_40 (by rw [h]; decide) (by rw [h]; decide) (by rw [h]; rfl) (by decide) ?_
        exact lw_c3 hT hL C0 hi hcs hI hw hl bk
      · refine lv_tableIn (tgt := 411) hx hb dd_L_law_40 (by rw [h]; decide) (by rw [h]; decide) (by rw [h]; rfl) (by decide) ?_
        exact lw_c4 hT hL C0 hi hcs hI hw hl bk
      · refine lv_tableIn (tgt := 491) hx hb dd_L_law_40 (by rw [h]; decide) (by rw [h]; decide) (by rw [h]; rfl) (by decide) ?_
        exact lw_c5 hT hL C0 hi hcs hI hw hl bk
      · refine lv_tableIn (tgt := 547) hx hb dd_L_law_40 (by rw [h]; decide) (by rw [h]; decide) (by rw [h]; rfl) (by decide) ?_
        exact lw_c6 hT hL C0 hi hcs hI hw hl bk
      · refine lv_tableIn (tgt := 595) hx hb dd_L_law_40 (by rw [h]; decide) (by rw [h]; decide) (by rw [h]; rfl) (by decide) ?_
        exact lw_c7 hT hL C0 hi hcs hI hw hl bk
      · refine lv_tableIn (tgt := 655) hx hb dd_L_law_40 (by rw [h]; decide) (by rw [h]; decide) (by rw [h]; rfl) (by decide) ?_
        exact lw_c8 hT hL C0 hi hcs hI hw hl bk
      · refine lv_tableIn (tgt := 731) hx hb dd_L_law_40 (by rw [h]; decide) (by rw [h]; decide) (by rw [h]; rfl) (by decide) ?_
        exact lw_c9 hT hL C0 hi hcs hI hw hl bk
      · refine lv_tableIn (tgt := 806) hx hb dd_L_law_40 (by rw [h]; decide) (by rw [h]; decide) (by rw [h]; rfl) (by decide) ?_
        exact lw_c10 hT hL C0 hi hcs hI hw hl bk
      · refine lv_tableIn (tgt := 898) hx hb dd_L_law_40 (by rw [h]; decide) (by rw [h]; decide) (by rw [h]; rfl) (by decide) ?_
        exact lw_c11 hT hL C0 hi hcs hI hw hl bk
      · refine lv_tableIn (tgt := 978) hx hb dd_L_law_40 (by rw [h]; decide) (by rw [h]; decide) (by rw [h]; rfl) (by decide) ?_
        exact lw_c12 hT hL C0 hi hcs hI hw hl bk
      · refine lv_tableIn (tgt := 1082) hx hb dd_L_law_40 (by rw [h]; decide) (by rw [h]; decide) (by rw [h]; rfl) (by decide) ?_
        exact lw_c13 hT hL C0 hi hcs hI hw hl bk
      · refine lv_tableIn (tgt := 1182) hx hb dd_L_law_40 (by rw [h]; decide) (by rw [h]; decide) (by rw [h]; rfl) (by decide) ?_
        exact lw_c14 hT hL C0 hi hcs hI hw hl bk
      · refine lv_tableIn (tgt := 1238) hx hb dd_L_law_40 (by rw [h]; decide) (by rw [h]; decide) (by rw [h]; rfl) (by decide) ?_
        exact lw_c15 hT hL C0 hi hcs hI hw hl bk
      · refine lv_tableIn (tgt := 1318) hx hb dd_L_law_40 (by rw [h]; decide) (by rw [h]; decide) (by rw [h]; rfl) (by decide) ?_
        exact lw_c16 hT hL C0 hi hcs hI hw hl bk
      · refine lv_tableIn (tgt := 1386) hx hb dd_L_law_40 (by rw [h]; decide) (by rw [h]; decide) (by rw [h]; rfl) (by decide) ?_
        exact lw_c17 hT hL C0 hi hcs hI hw hl bk
      · refine lv_tableOut (tgt := 1454) hx hb dd_L_law_40 h (by decide) ?_
        refine W.widen (k := 40 + 16 * j + 16) (n := 1900 + 64 * j + 64) (by omega) (by omega) ?_
        exact bk P th H _ ls hI hw hl

set_option maxHeartbeats 4000000 in
set_option maxRecDepth 100000 in
/-- the law from its entry -/
theorem whole_start {p : Program} {e : Env} {s : State} {m : MethodId} {below : List Frame} {meth : Method} {c : Code} (l : Launch) (hT : l.stackTraces = false) {b L : Nat} {xs : Nat → Int32} (hL : L ≤ 3072) (C0 : lw_At p s m meth c b L xs) : W p l e room_1 s m #[Value.ref b] below meth c s.heap [] 0 0 (lw_Z below #[Value.ref b] s) (entryFrame m ([Value.ref b] : List Value).toArray 7) := by
  obtain ⟨hx, hb, hr, hml, hown, hts, hX, hbl, hlocks, hgv⟩ := id C0
  obtain ⟨D, ac, sa, hK⟩ := cx_start hts hgv
  have hg : ∀ w ∈ gw, w.before #[Value.ref b] s = true := fun w h => hts w (gw_in w h)
  have hbA : ¬ pm_A s.heap.size b := Nat.not_le.mpr hbl
  have hB : lw_B p s m c b L xs s.heap.size D ac sa := ⟨hx, hb, hml, hown, hg, hX, hbl, hbA, hK⟩
  have hw : pm_W s.heap.size D cl_w (fun _ => none) s.heap s.heap [] := ⟨Nat.le_refl _, fun a e h => (nomatch h), va_S.rf⟩
  have hl := lv_entry ([.ref b]) (n := 7) (Nat.le_of_ble_eq_true rfl)
  rw [lg_entry_eq]
  generalize (lg_sl ([.ref b]) ++ List.replicate (7 - (lg_sl ([.ref b])).length) Slot.unset).toArray = ls at hl ⊢
  have hl : lv_has ls 7 [(0, .ref b)] := hl
  refine pm_new (ci := 0) (fs := [.null, .null, .null, .null, .null, .int 0, .int 0, .int 0]) (C := cn_C) (T := cf_C) (N := 8) hx hb hg gu_C ct_C co_C hown (hg _ gk_L_8) (hg _ gx_C) (hg _ gn_C) hK.2.1 hw rfl (by decide +kernel) (Nat.le_of_ble_eq_true rfl) (Nat.le_of_ble_eq_true rfl) dd_L_law_0 (fun h0 H hnh0 hw => ?_)
  refine lv_dup hx hb dd_L_law_3 rfl ?_
  have f0 : pm_up (fun _ => none) h0 (.inr (0, [.null, .null, .null, .null, .null, .int 0, .int 0, .int 0])) h0 = some (.inr (0, [.null, .null, .null, .null, .null, .int 0, .int 0, .int 0])) := pm_s
  refine cx_after (cx_rI (n := 0) (As := []) (rest := [.ref h0]) ⟨hx, hb, hml, hown, hg⟩ (c_C_init l s.heap.size D ac sa _ h0 f0) gc_C_init gm_L_80 gi_C_init gn_C rfl (by decide +kernel) ⟨by decide, by decide⟩ hK hw rfl hl.1 rfl (Nat.le_of_ble_eq_true rfl) dd_L_law_4 ⟨by decide, by decide⟩) hw (fun v9 P2 H locs hp hw => ?_)
  obtain ⟨rfl, aH, aT, aL, aK, aW, ak, aC, aY, aB, lm, hlm, -, gn, g0, g1, g2, g3, g4, g6, g5, g7, g8, g9, -⟩ := hp
  refine W.eq (g2 := F0 m 7 ls [.ref h0]) rfl ?_
  refine lv_astore_n (lv' := [(1, .ref h0), (0, .ref b)]) hx hb dd_L_law_7 rfl hl (by decide) rfl (fun ls hl => ?_)
  refine pm_new (ci := 6) (fs := [.int 0, .int 0, .null, .null, .null, .null, .null, .null, .null, .null, .null, .null, .int 0, .int 0, .null, .null, .null, .null, .null, .int 0, .null, .null, .null]) (C := cn_M) (T := cf_M) (N := 23) hx hb hg gu_M ct_M co_M hown (hg _ gk_L_81) (hg _ gx_M) (hg _ gn_M) hK.2.1 hw rfl (by decide +kernel) (Nat.le_of_ble_eq_true rfl) (Nat.le_of_ble_eq_true rfl) dd_L_law_8 (fun hm H hnhm hw => ?_)
  refine lv_dup hx hb dd_L_law_11 rfl ?_
  have f1 : pm_up P2 hm (.inr (6, [.int 0, .int 0, .null, .null, .null, .null, .null, .null, .null, .null, .null, .null, .int 0, .int 0, .null, .null, .null, .null, .null, .int 0, .null, .null, .null])) hm = some (.inr (6, [.int 0, .int 0, .null, .null, .null, .null, .null, .null, .null, .null, .null, .null, .int 0, .int 0, .null, .null, .null, .null, .null, .int 0, .null, .null, .null])) := pm_s
  refine cx_after (cx_rI (n := 0) (As := []) (rest := [.ref hm]) ⟨hx, hb, hml, hown, hg⟩ (c_M_init l s.heap.size D ac sa _ hm f1) gc_M_init gm_L_83 gi_M_init gn_M rfl (by decide +kernel) ⟨by decide, by decide⟩ hK hw rfl hl.1 rfl (Nat.le_of_ble_eq_true rfl) dd_L_law_12 ⟨by decide, by decide⟩) hw (fun v9 P4 H locs hp hw => ?_)
  obtain ⟨rfl, ma, mv, hma, hmv, hm9, hW, hK4⟩ := hp
  refine W.eq (g2 := F0 m 15 ls [.ref hm]) rfl ?_
  refine lv_astore_n (lv' := [(2, .ref hm), (1, .ref h0), (0, .ref b)]) hx hb dd_L_law_15 rfl hl (by decide) rfl (fun ls hl => ?_)
  refine lv_iconst (v := 1) hx hb dd_L_law_16 (by decide) ?_
  refine pm_newa (atype := .long) (N' := 1) (ty := .long) (a0 := (1, .inr (.inl (fun _ => 0)))) hx hb (hg _ gar_long) rfl hK.2.1 hw 1 rfl (fun _ => rfl) (by decide) (by decide) (by decide) (Nat.le_of_ble_eq_true rfl) (Nat.le_of_ble_eq_true rfl) dd_L_law_17 (fun ao H hnao hw => ?_)
  refine lv_astore_n (lv' := [(3, .ref ao), (2, .ref hm), (1, .ref h0), (0, .ref b)]) hx hb dd_L_law_19 rfl hl (by decide) rfl (fun ls hl => ?_)
  refine lv_iconst (v := 0) hx hb dd_L_law_20 (by decide) ?_
  refine lv_istore (lv' := [(4, .int (0 : Int32)), (3, .ref ao), (2, .ref hm), (1, .ref h0), (0, .ref b)]) hx hb dd_L_law_21 hl (by decide) rfl (fun ls hl => ?_)
  refine W.widen (k := 40 + 16 * 0) (n := 1900 + 64 * 0) (by decide) (by decide) ?_
  exact law_loop hT hL hB hr hlocks (L + 6) 0 (by omega) (by omega) _ 0 H _ ls (iv_start hlm gn g0 g1 g2 g3 g4 g6 g5 g7 g8 g9 hnhm hma hmv hm9 hW hK4 hnao) hw (lv_sub hl [4, 3, 2, 1, 0] rfl)
