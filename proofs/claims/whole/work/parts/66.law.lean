theorem su_sw18 (x : Int32) : x = 0 ∨ x = 1 ∨ x = 2 ∨ x = 3 ∨ x = 4 ∨ x = 5 ∨ x = 6 ∨ x = 7 ∨ x = 8 ∨ x = 9 ∨ x = 10 ∨ x = 11 ∨ x = 12 ∨ x = 13 ∨ x = 14 ∨ x = 15 ∨ x = 16 ∨ x = 17 ∨ (x.toInt < 0 ∨ 17 < x.toInt) := by
  by_cases h : x.toInt < 0 ∨ 17 < x.toInt
  · exact .inr (.inr (.inr (.inr (.inr (.inr (.inr (.inr (.inr (.inr (.inr (.inr (.inr (.inr (.inr (.inr (.inr (.inr h)))))))))))))))))
  · have h1 : x.toInt = 0 ∨ x.toInt = 1 ∨ x.toInt = 2 ∨ x.toInt = 3 ∨ x.toInt = 4 ∨ x.toInt = 5 ∨ x.toInt = 6 ∨ x.toInt = 7 ∨ x.toInt = 8 ∨ x.toInt = 9 ∨ x.toInt = 10 ∨ x.toInt = 11 ∨ x.toInt = 12 ∨ x.toInt = 13 ∨ x.toInt = 14 ∨ x.toInt = 15 ∨ x.toInt = 16 ∨ x.toInt = 17 := by omega
    rcases h1 with h1 | h1 | h1 | h1 | h1 | h1 | h1 | h1 | h1 | h1 | h1 | h1 | h1 | h1 | h1 | h1 | h1 | h1
    · exact .inl (Int32.toInt_inj.mp h1)
    · exact .inr (.inl (Int32.toInt_inj.mp h1))
    · exact .inr (.inr (.inl (Int32.toInt_inj.mp h1)))
    · exact .inr (.inr (.inr (.inl (Int32.toInt_inj.mp h1))))
    · exact .inr (.inr (.inr (.inr (.inl (Int32.toInt_inj.mp h1)))))
    · exact .inr (.inr (.inr (.inr (.inr (.inl (Int32.toInt_inj.mp h1))))))
    · exact .inr (.inr (.inr (.inr (.inr (.inr (.inl (Int32.toInt_inj.mp h1)))))))
    · exact .inr (.inr (.inr (.inr (.inr (.inr (.inr (.inl (Int32.toInt_inj.mp h1))))))))
    · exact .inr (.inr (.inr (.inr (.inr (.inr (.inr (.inr (.inl (Int32.toInt_inj.mp h1)))))))))
    · exact .inr (.inr (.inr (.inr (.inr (.inr (.inr (.inr (.inr (.inl (Int32.toInt_inj.mp h1))))))))))
    · exact .inr (.inr (.inr (.inr (.inr (.inr (.inr (.inr (.inr (.inr (.inl (Int32.toInt_inj.mp h1)))))))))))
    · exact .inr (.inr (.inr (.inr (.inr (.inr (.inr (.inr (.inr (.inr (.inr (.inl (Int32.toInt_inj.mp h1))))))))))))
    · exact .inr (.inr (.inr (.inr (.inr (.inr (.inr (.inr (.inr (.inr (.inr (.inr (.inl (Int32.toInt_inj.mp h1)))))))))))))
    · exact .inr (.inr (.inr (.inr (.inr (.inr (.inr (.inr (.inr (.inr (.inr (.inr (.inr (.inl (Int32.toInt_inj.mp h1))))))))))))))
    · exact .inr (.inr (.inr (.inr (.inr (.inr (.inr (.inr (.inr (.inr (.inr (.inr (.inr (.inr (.inl (Int32.toInt_inj.mp h1)))))))))))))))
    · exact .inr (.inr (.inr (.inr (.inr (.inr (.inr (.inr (.inr (.inr (.inr (.inr (.inr (.inr (.inr (.inl (Int32.toInt_inj.mp h1))))))))))))))))
    · exact .inr (.inr (.inr (.inr (.inr (.inr (.inr (.inr (.inr (.inr (.inr (.inr (.inr (.inr (.inr (.inr (.inl (Int32.toInt_inj.mp h1)))))))))))))))))
    · exact .inr (.inr (.inr (.inr (.inr (.inr (.inr (.inr (.inr (.inr (.inr (.inr (.inr (.inr (.inr (.inr (.inr (.inl (Int32.toInt_inj.mp h1))))))))))))))))))

/-- what the law's walk stands on -/
def lw_B (p : Program) (s : State) (m : MethodId) (c : Code) (b L : Nat) (xs : Nat → Int32) (z : Nat) (D : va_G) (ac : Nat → ClassId) (sa : Nat → Nat) : Prop :=
  p.tables.exec = Jvm.exec ∧ c.code = bb_L_law ∧ c.maxLocals = 7 ∧ s.vm.findClass cn_L = some m.cls ∧ (∀ w ∈ gw, w.before #[Value.ref b] s = true) ∧ va_X b L xs s s.heap ∧ b < s.heap.size ∧ ¬ pm_A z b ∧ cx_K z D ac sa s
theorem iv_thr {l : Launch} {z : Nat} {D : va_G} {ac : Nat → ClassId} {sa : Nat → Nat} {P : pm_T} {h0 hm ao : Nat} {th : Int32} (hI : iv_I P ac h0 hm ao th) : ∃ vs : List Value, P hm = some (.inr (6, vs)) ∧ cx_M l yy_M_thrown bb_M_thrown 1 (some .int) ({ frames := 0, cells := 0, slots := 0, locals := 0 } : Room) z D ac sa P [.ref hm] (fun v P' => v = some (.int th) ∧ P' = P) := by
  obtain ⟨ad, ma, n, t, al, so, fH, fT, hv, tv, ov, aw, ct, fw, lm, cn, lt, ks, kf, fC, fY, fB, mv, hq, tq, wn, fo0, hC, hW, hD, hO, hP⟩ := hI
  exact ⟨_, hW.1, c_M_thrown l z D ac sa P hm ma mv th (nI n) al (nI t) so hW⟩
theorem lw_cmp {fo : Nat → Int64} {v w : Int64} (h : v = w) : lg_cmp (vp_updL fo 0 v (0 : Int32).toNatClampNeg) w = 0 := by
  rw [lg_cmp_eq, ← h]
  rfl
theorem lw_in {i k L : Nat} {x : Int32} (hx : x = nI k) (hL : L ≤ 3072) (h : i + k < L) : vp_in (nI i + x) L := by
  rw [hx, nI_add]
  exact vp_in_nI h (by omega)

set_option maxHeartbeats 4000000 in
set_option maxRecDepth 100000 in
theorem lw_c0 {p : Program} {l : Launch} {e : Env} {s : State} {m : MethodId} {below : List Frame} {meth : Method} {c : Code} {b L : Nat} {xs : Nat → Int32} {z : Nat} {D : va_G} {ac : Nat → ClassId} {sa : Nat → Nat} {Q : State → Prop} (hT : l.stackTraces = false) (hL : L ≤ 3072) (C0 : lw_B p s m c b L xs z D ac sa) {i : Nat} (hi : i + 6 ≤ L) {h0 hm ao : Nat} {P : pm_T} {th : Int32} {H : Heap} {locs : List Loc} {ls : Array Slot} {cells slots : Nat} (hcs : cells + 16 ≤ room_1.cells ∧ slots + 64 ≤ room_1.slots) (hI : iv_I P ac h0 hm ao th) (hw : pm_W z D cl_w P s.heap H locs) (hl : lv_has ls 7 [(0, .ref b), (1, .ref h0), (2, .ref hm), (3, .ref ao), (4, .int (nI i))]) (kk : ∀ (P : pm_T) (th : Int32) (H : Heap) (locs : List Loc) (ls : Array Slot), iv_I P ac h0 hm ao th → pm_W z D cl_w P s.heap H locs → lv_has ls 7 [(0, .ref b), (1, .ref h0), (2, .ref hm), (3, .ref ao), (4, .int (nI i))] → W p l e room_1 s m #[Value.ref b] below meth c H locs (cells + 16) (slots + 64) Q (F0 m 1454 ls [])) : W p l e room_1 s m #[Value.ref b] below meth c H locs cells slots Q (F0 m 128 ls []) := by
  obtain ⟨hx, hb, hml, hown, hg, hX, hbl, hbA, hK⟩ := C0
  have hv1 : vp_in (nI i + (1 : Int32)) L := lw_in (k := 1) rfl hL (by omega)
  have hv2 : vp_in (nI i + (2 : Int32)) L := lw_in (k := 2) rfl hL (by omega)
  have hv3 : vp_in (nI i + (3 : Int32)) L := lw_in (k := 3) rfl hL (by omega)
  have hv4 : vp_in (nI i + (4 : Int32)) L := lw_in (k := 4) rfl hL (by omega)
  have hv5 : vp_in (nI i + (5 : Int32)) L := lw_in (k := 5) rfl hL (by omega)
  refine lv_aload_n hx hb dd_L_law_128 rfl (lv_at hl 1 rfl) ?_
  refine lv_aload_n hx hb dd_L_law_129 rfl (lv_at hl 0 rfl) ?_
  refine lv_iload hx hb dd_L_law_130 (lv_at hl 4 rfl) ?_
  refine lv_iconst (v := 1) hx hb dd_L_law_132 (by decide) ?_
  refine lv_iadd hx hb dd_L_law_133 ?_
  refine va_sld hx hb hX hbl hbA hw.2.2 hv1 dd_L_law_134 ?_
  refine lv_aload_n hx hb dd_L_law_135 rfl (lv_at hl 0 rfl) ?_
  refine lv_iload hx hb dd_L_law_136 (lv_at hl 4 rfl) ?_
  refine lv_iconst (v := 2) hx hb dd_L_law_138 (by decide) ?_
  refine lv_iadd hx hb dd_L_law_139 ?_
  refine va_sld hx hb hX hbl hbA hw.2.2 hv2 dd_L_law_140 ?_
  refine lv_aload_n hx hb dd_L_law_141 rfl (lv_at hl 0 rfl) ?_
  refine lv_iload hx hb dd_L_law_142 (lv_at hl 4 rfl) ?_
  refine lv_iconst (v := 3) hx hb dd_L_law_144 (by decide) ?_
  refine lv_iadd hx hb dd_L_law_145 ?_
  refine va_sld hx hb hX hbl hbA hw.2.2 hv3 dd_L_law_146 ?_
  refine lv_aload_n hx hb dd_L_law_147 rfl (lv_at hl 0 rfl) ?_
  refine lv_iload hx hb dd_L_law_148 (lv_at hl 4 rfl) ?_
  refine lv_iconst (v := 4) hx hb dd_L_law_150 (by decide) ?_
  refine lv_iadd hx hb dd_L_law_151 ?_
  refine va_sld hx hb hX hbl hbA hw.2.2 hv4 dd_L_law_152 ?_
  refine lv_aload_n hx hb dd_L_law_153 rfl (lv_at hl 3 rfl) ?_
  obtain ⟨fs, post, xp, f0, hC, hS, hF⟩ := st_hydrant l hT z D ac sa P h0 hm ao th (xs (nI i + (1 : Int32)).toNatClampNeg) (xs (nI i + (2 : Int32)).toNatClampNeg) (xs (nI i + (3 : Int32)).toNatClampNeg) (xs (nI i + (4 : Int32)).toNatClampNeg) hI
  refine cx_afterX (cx_rSH (n := 6) (As := [.ref h0, .int (xs (nI i + (1 : Int32)).toNatClampNeg), .int (xs (nI i + (2 : Int32)).toNatClampNeg), .int (xs (nI i + (3 : Int32)).toNatClampNeg), .int (xs (nI i + (4 : Int32)).toNatClampNeg), .ref ao]) (rest := []) ⟨hx, hb, hml, hown, hg⟩ (w_hydrant l z D ac sa P h0 ao fs (xs (nI i + (1 : Int32)).toNatClampNeg) (xs (nI i + (2 : Int32)).toNatClampNeg) (xs (nI i + (3 : Int32)).toNatClampNeg) (xs (nI i + (4 : Int32)).toNatClampNeg) post xp hC (fun v P1 h => (hS v P1 h).elim (fun r h => h.elim (fun fo h => ⟨r, fo, h.1, h.2.1⟩))) (fun E P1 h => (hF E P1 h).elim (fun cd h => h.1.imp And.left (Or.imp And.left And.left))) f0) gch_L_hydrant gm_L_84 gt_L_hydrant gn_L (by decide +kernel) ⟨by decide, by decide⟩ hK hw rfl hl.1 rfl (Nat.le_of_ble_eq_true rfl) dd_L_law_154 ⟨Nat.le_trans (by dsimp only; omega) hcs.1, Nat.le_trans (by dsimp only; omega) hcs.2⟩) hw (fun E9 ce9 q9 P9 H locs hp hw hce hcv hcl => hp.elim) (fun v9 P9 H locs hp hw => ?_)
  rcases hp with ⟨r, P1, fo, hp, fo9, rfl, e9⟩ | ⟨hp, rfl⟩ | ⟨hp, rfl⟩ | ⟨hp, rfl⟩
  · skip
    rw [e9] at hw
    clear e9 P9
    obtain ⟨r1, fo1, e1, -, hN⟩ := hS _ _ hp
    have e1 : r = r1 := Value.int.inj (Option.some.inj e1)
    subst e1
    obtain ⟨vs, mp, hv, hM, hE⟩ := hN (vp_updL fo 0 r.toInt64)
    refine W.eq (g2 := F0 m 157 ls [.int (0 : Int32)]) rfl ?_
    refine lv_istore (lv' := [(5, .int (0 : Int32)), (0, .ref b), (1, .ref h0), (2, .ref hm), (3, .ref ao), (4, .int (nI i))]) hx hb dd_L_law_157 hl (by decide) rfl (fun ls hl => ?_)
    refine lv_aload_n hx hb dd_L_law_159 rfl (lv_at hl 3 rfl) ?_
    refine lv_aload_n hx hb dd_L_law_160 rfl (lv_at hl 1 rfl) ?_
    refine lv_iload hx hb dd_L_law_161 (lv_at hl 5 rfl) ?_
    refine lv_iconst (v := 1) hx hb dd_L_law_163 (by decide) ?_
    refine lv_iadd hx hb dd_L_law_164 ?_
    refine va_sld hx hb hX hbl hbA hw.2.2 hv1 dd_L_law_165 ?_
    refine lv_aload_n hx hb dd_L_law_166 rfl (lv_at hl 1 rfl) ?_
    refine lv_iload hx hb dd_L_law_167 (lv_at hl 5 rfl) ?_
    refine lv_iconst (v := 2) hx hb dd_L_law_169 (by decide) ?_
    refine lv_iadd hx hb dd_L_law_170 ?_
    refine va_sld hx hb hX hbl hbA hw.2.2 hv2 dd_L_law_171 ?_
    refine lv_aload_n hx hb dd_L_law_172 rfl (lv_at hl 1 rfl) ?_
    refine lv_iload hx hb dd_L_law_173 (lv_at hl 5 rfl) ?_
    refine lv_iconst (v := 3) hx hb dd_L_law_175 (by decide) ?_
    refine lv_iadd hx hb dd_L_law_176 ?_
    refine va_sld hx hb hX hbl hbA hw.2.2 hv3 dd_L_law_177 ?_
    refine lv_aload_n hx hb dd_L_law_178 rfl (lv_at hl 1 rfl) ?_
    refine lv_iload hx hb dd_L_law_179 (lv_at hl 5 rfl) ?_
    refine lv_iconst (v := 4) hx hb dd_L_law_181 (by decide) ?_
    refine lv_iadd hx hb dd_L_law_182 ?_
    refine va_sld hx hb hX hbl hbA hw.2.2 hv4 dd_L_law_183 ?_
    refine cx_after (cx_rV (n := 4) (As := [.int (xs (nI i + (1 : Int32)).toNatClampNeg), .int (xs (nI i + (2 : Int32)).toNatClampNeg), .int (xs (nI i + (3 : Int32)).toNatClampNeg), .int (xs (nI i + (4 : Int32)).toNatClampNeg)]) (rest := []) ⟨hx, hb, hml, hown, hg⟩ hM (cx_gv gm_L_89 gi_M_hydrant gs_M_hydrant gn_M gc_M_hydrant) (by decide +kernel) ⟨by decide, by decide⟩ hK hw hv rfl rfl hl.1 rfl (Nat.le_of_ble_eq_true rfl) dd_L_law_184 ⟨Nat.le_trans (by dsimp only; omega) hcs.1, Nat.le_trans (by dsimp only; omega) hcs.2⟩) hw (fun v9 P3 H locs hp hw => ?_)
    obtain ⟨rfl, hI, hao⟩ := hE _ _ hp
    refine W.eq (g2 := F0 m 187 ls [.int r]) rfl ?_
    refine lv_istore (lv' := [(6, .int r), (5, .int (0 : Int32)), (0, .ref b), (1, .ref h0), (2, .ref hm), (3, .ref ao), (4, .int (nI i))]) hx hb dd_L_law_187 hl (by decide) rfl (fun ls hl => ?_)
    refine lv_aload_n hx hb dd_L_law_189 rfl (lv_at hl 4 rfl) ?_
    obtain ⟨vs9, hv9, hM9⟩ := iv_thr (l := l) (z := z) (D := D) (sa := sa) hI
    refine cx_after (cx_rV (n := 0) (As := []) (rest := []) ⟨hx, hb, hml, hown, hg⟩ hM9 (cx_gv gm_L_90 gi_M_thrown gs_M_thrown gn_M gc_M_thrown) (by decide +kernel) ⟨by decide, by decide⟩ hK hw hv9 rfl rfl hl.1 rfl (Nat.le_of_ble_eq_true rfl) dd_L_law_190 ⟨Nat.le_trans (by dsimp only; omega) hcs.1, Nat.le_trans (by dsimp only; omega) hcs.2⟩) hw (fun v9 P9 H locs hp hw => ?_)
    obtain ⟨rfl, e9⟩ := hp
    rw [e9] at hw
    clear e9 P9
    refine W.eq (g2 := F0 m 193 ls [.int (0 : Int32)]) rfl ?_
    refine lv_iload hx hb dd_L_law_193 (lv_at hl 1 rfl) ?_
    refine lv_icmp_eq (tgt := 200) hx hb dd_L_law_195 (by decide) (fun c1 => ?_) (fun c1 => absurd (by decide) c1)
    refine lv_iload hx hb dd_L_law_200 (lv_at hl 1 rfl) ?_
    refine lv_if_ne (tgt := 217) hx hb dd_L_law_202 (by decide) (fun c2 => absurd (by decide) c2) (fun c2 => ?_)
    refine lv_aload_n hx hb dd_L_law_205 rfl (lv_at hl 5 rfl) ?_
    refine lv_iconst (v := 0) hx hb dd_L_law_206 (by decide) ?_
    refine pm_lald hx hb hK.2.1 hw 1 hao rfl (show vp_in (0 : Int32) 1 from vp_in_nI (n := 0) (by decide) (by decide)) dd_L_law_207 ?_
    refine lv_iload hx hb dd_L_law_208 (lv_at hl 0 rfl) ?_
    refine lv_i2l hx hb dd_L_law_210 rfl ?_
    refine W.lcmp hx hb dd_L_law_211 ?_
    refine lv_if_eq (tgt := 217) hx hb dd_L_law_212 (by decide) (fun c3 => ?_) (fun c3 => absurd (lw_cmp rfl) c3)
    refine lv_goto (tgt := 1454) hx hb dd_L_law_217 (by decide) ?_
    refine W.widen (k := cells + 16) (n := slots + 64) (by dsimp only; omega) (by dsimp only; omega) ?_
    exact kk P3 0 H _ ls hI hw (lv_sub hl [2, 3, 4, 5, 6] rfl)
  · skip
    obtain ⟨cd, hcd, vs, mp, hv, hM, hE⟩ := hF _ _ hp
    have hcd : cd = 1 := by
      rcases hcd with ⟨q, h⟩ | ⟨q, h⟩ | ⟨q, h⟩ <;> first | exact h | exact absurd q (by decide +kernel)
    subst hcd
    refine W.eq (g2 := F0 m 157 ls [.int (1 : Int32)]) rfl ?_
    refine lv_istore (lv' := [(5, .int (1 : Int32)), (0, .ref b), (1, .ref h0), (2, .ref hm), (3, .ref ao), (4, .int (nI i))]) hx hb dd_L_law_157 hl (by decide) rfl (fun ls hl => ?_)
    refine lv_aload_n hx hb dd_L_law_159 rfl (lv_at hl 3 rfl) ?_
    refine lv_aload_n hx hb dd_L_law_160 rfl (lv_at hl 1 rfl) ?_
    refine lv_iload hx hb dd_L_law_161 (lv_at hl 5 rfl) ?_
    refine lv_iconst (v := 1) hx hb dd_L_law_163 (by decide) ?_
    refine lv_iadd hx hb dd_L_law_164 ?_
    refine va_sld hx hb hX hbl hbA hw.2.2 hv1 dd_L_law_165 ?_
    refine lv_aload_n hx hb dd_L_law_166 rfl (lv_at hl 1 rfl) ?_
    refine lv_iload hx hb dd_L_law_167 (lv_at hl 5 rfl) ?_
    refine lv_iconst (v := 2) hx hb dd_L_law_169 (by decide) ?_
    refine lv_iadd hx hb dd_L_law_170 ?_
    refine va_sld hx hb hX hbl hbA hw.2.2 hv2 dd_L_law_171 ?_
    refine lv_aload_n hx hb dd_L_law_172 rfl (lv_at hl 1 rfl) ?_
    refine lv_iload hx hb dd_L_law_173 (lv_at hl 5 rfl) ?_
    refine lv_iconst (v := 3) hx hb dd_L_law_175 (by decide) ?_
    refine lv_iadd hx hb dd_L_law_176 ?_
    refine va_sld hx hb hX hbl hbA hw.2.2 hv3 dd_L_law_177 ?_
    refine lv_aload_n hx hb dd_L_law_178 rfl (lv_at hl 1 rfl) ?_
    refine lv_iload hx hb dd_L_law_179 (lv_at hl 5 rfl) ?_
    refine lv_iconst (v := 4) hx hb dd_L_law_181 (by decide) ?_
    refine lv_iadd hx hb dd_L_law_182 ?_
    refine va_sld hx hb hX hbl hbA hw.2.2 hv4 dd_L_law_183 ?_
    refine cx_after (cx_rV (n := 4) (As := [.int (xs (nI i + (1 : Int32)).toNatClampNeg), .int (xs (nI i + (2 : Int32)).toNatClampNeg), .int (xs (nI i + (3 : Int32)).toNatClampNeg), .int (xs (nI i + (4 : Int32)).toNatClampNeg)]) (rest := []) ⟨hx, hb, hml, hown, hg⟩ hM (cx_gv gm_L_89 gi_M_hydrant gs_M_hydrant gn_M gc_M_hydrant) (by decide +kernel) ⟨by decide, by decide⟩ hK hw hv rfl rfl hl.1 rfl (Nat.le_of_ble_eq_true rfl) dd_L_law_184 ⟨Nat.le_trans (by dsimp only; omega) hcs.1, Nat.le_trans (by dsimp only; omega) hcs.2⟩) hw (fun v9 P3 H locs hp hw => ?_)
    obtain ⟨⟨b9, rfl⟩, hI⟩ := hE _ _ hp
    refine W.eq (g2 := F0 m 187 ls [.int b9]) rfl ?_
    refine lv_istore (lv' := [(6, .int b9), (5, .int (1 : Int32)), (0, .ref b), (1, .ref h0), (2, .ref hm), (3, .ref ao), (4, .int (nI i))]) hx hb dd_L_law_187 hl (by decide) rfl (fun ls hl => ?_)
    refine lv_aload_n hx hb dd_L_law_189 rfl (lv_at hl 4 rfl) ?_
    obtain ⟨vs9, hv9, hM9⟩ := iv_thr (l := l) (z := z) (D := D) (sa := sa) hI
    refine cx_after (cx_rV (n := 0) (As := []) (rest := []) ⟨hx, hb, hml, hown, hg⟩ hM9 (cx_gv gm_L_90 gi_M_thrown gs_M_thrown gn_M gc_M_thrown) (by decide +kernel) ⟨by decide, by decide⟩ hK hw hv9 rfl rfl hl.1 rfl (Nat.le_of_ble_eq_true rfl) dd_L_law_190 ⟨Nat.le_trans (by dsimp only; omega) hcs.1, Nat.le_trans (by dsimp only; omega) hcs.2⟩) hw (fun v9 P9 H locs hp hw => ?_)
    obtain ⟨rfl, e9⟩ := hp
    rw [e9] at hw
    clear e9 P9
    refine W.eq (g2 := F0 m 193 ls [.int (1 : Int32)]) rfl ?_
    refine lv_iload hx hb dd_L_law_193 (lv_at hl 1 rfl) ?_
    refine lv_icmp_eq (tgt := 200) hx hb dd_L_law_195 (by decide) (fun c4 => ?_) (fun c4 => absurd (by decide) c4)
    refine lv_iload hx hb dd_L_law_200 (lv_at hl 1 rfl) ?_
    refine lv_if_ne (tgt := 217) hx hb dd_L_law_202 (by decide) (fun c5 => ?_) (fun c5 => absurd c5 (by decide))
    refine lv_goto (tgt := 1454) hx hb dd_L_law_217 (by decide) ?_
    refine W.widen (k := cells + 16) (n := slots + 64) (by dsimp only; omega) (by dsimp only; omega) ?_
    exact kk P3 1 H _ ls hI hw (lv_sub hl [2, 3, 4, 5, 6] rfl)
  · skip
    obtain ⟨cd, hcd, vs, mp, hv, hM, hE⟩ := hF _ _ hp
    have hcd : cd = 2 := by
      rcases hcd with ⟨q, h⟩ | ⟨q, h⟩ | ⟨q, h⟩ <;> first | exact h | exact absurd q (by decide +kernel)
    subst hcd
    refine W.eq (g2 := F0 m 157 ls [.int (2 : Int32)]) rfl ?_
    refine lv_istore (lv' := [(5, .int (2 : Int32)), (0, .ref b), (1, .ref h0), (2, .ref hm), (3, .ref ao), (4, .int (nI i))]) hx hb dd_L_law_157 hl (by decide) rfl (fun ls hl => ?_)
    refine lv_aload_n hx hb dd_L_law_159 rfl (lv_at hl 3 rfl) ?_
    refine lv_aload_n hx hb dd_L_law_160 rfl (lv_at hl 1 rfl) ?_
    refine lv_iload hx hb dd_L_law_161 (lv_at hl 5 rfl) ?_
    refine lv_iconst (v := 1) hx hb dd_L_law_163 (by decide) ?_
    refine lv_iadd hx hb dd_L_law_164 ?_
    refine va_sld hx hb hX hbl hbA hw.2.2 hv1 dd_L_law_165 ?_
    refine lv_aload_n hx hb dd_L_law_166 rfl (lv_at hl 1 rfl) ?_
    refine lv_iload hx hb dd_L_law_167 (lv_at hl 5 rfl) ?_
    refine lv_iconst (v := 2) hx hb dd_L_law_169 (by decide) ?_
    refine lv_iadd hx hb dd_L_law_170 ?_
    refine va_sld hx hb hX hbl hbA hw.2.2 hv2 dd_L_law_171 ?_
    refine lv_aload_n hx hb dd_L_law_172 rfl (lv_at hl 1 rfl) ?_
    refine lv_iload hx hb dd_L_law_173 (lv_at hl 5 rfl) ?_
    refine lv_iconst (v := 3) hx hb dd_L_law_175 (by decide) ?_
    refine lv_iadd hx hb dd_L_law_176 ?_
    refine va_sld hx hb hX hbl hbA hw.2.2 hv3 dd_L_law_177 ?_
    refine lv_aload_n hx hb dd_L_law_178 rfl (lv_at hl 1 rfl) ?_
    refine lv_iload hx hb dd_L_law_179 (lv_at hl 5 rfl) ?_
    refine lv_iconst (v := 4) hx hb dd_L_law_181 (by decide) ?_
    refine lv_iadd hx hb dd_L_law_182 ?_
    refine va_sld hx hb hX hbl hbA hw.2.2 hv4 dd_L_law_183 ?_
    refine cx_after (cx_rV (n := 4) (As := [.int (xs (nI i + (1 : Int32)).toNatClampNeg), .int (xs (nI i + (2 : Int32)).toNatClampNeg), .int (xs (nI i + (3 : Int32)).toNatClampNeg), .int (xs (nI i + (4 : Int32)).toNatClampNeg)]) (rest := []) ⟨hx, hb, hml, hown, hg⟩ hM (cx_gv gm_L_89 gi_M_hydrant gs_M_hydrant gn_M gc_M_hydrant) (by decide +kernel) ⟨by decide, by decide⟩ hK hw hv rfl rfl hl.1 rfl (Nat.le_of_ble_eq_true rfl) dd_L_law_184 ⟨Nat.le_trans (by dsimp only; omega) hcs.1, Nat.le_trans (by dsimp only; omega) hcs.2⟩) hw (fun v9 P3 H locs hp hw => ?_)
    obtain ⟨⟨b9, rfl⟩, hI⟩ := hE _ _ hp
    refine W.eq (g2 := F0 m 187 ls [.int b9]) rfl ?_
    refine lv_istore (lv' := [(6, .int b9), (5, .int (2 : Int32)), (0, .ref b), (1, .ref h0), (2, .ref hm), (3, .ref ao), (4, .int (nI i))]) hx hb dd_L_law_187 hl (by decide) rfl (fun ls hl => ?_)
    refine lv_aload_n hx hb dd_L_law_189 rfl (lv_at hl 4 rfl) ?_
    obtain ⟨vs9, hv9, hM9⟩ := iv_thr (l := l) (z := z) (D := D) (sa := sa) hI
    refine cx_after (cx_rV (n := 0) (As := []) (rest := []) ⟨hx, hb, hml, hown, hg⟩ hM9 (cx_gv gm_L_90 gi_M_thrown gs_M_thrown gn_M gc_M_thrown) (by decide +kernel) ⟨by decide, by decide⟩ hK hw hv9 rfl rfl hl.1 rfl (Nat.le_of_ble_eq_true rfl) dd_L_law_190 ⟨Nat.le_trans (by dsimp only; omega) hcs.1, Nat.le_trans (by dsimp only; omega) hcs.2⟩) hw (fun v9 P9 H locs hp hw => ?_)
    obtain ⟨rfl, e9⟩ := hp
    rw [e9] at hw
    clear e9 P9
    refine W.eq (g2 := F0 m 193 ls [.int (2 : Int32)]) rfl ?_
    refine lv_iload hx hb dd_L_law_193 (lv_at hl 1 rfl) ?_
    refine lv_icmp_eq (tgt := 200) hx hb dd_L_law_195 (by decide) (fun c6 => ?_) (fun c6 => absurd (by decide) c6)
    refine lv_iload hx hb dd_L_law_200 (lv_at hl 1 rfl) ?_
    refine lv_if_ne (tgt := 217) hx hb dd_L_law_202 (by decide) (fun c7 => ?_) (fun c7 => absurd c7 (by decide))
    refine lv_goto (tgt := 1454) hx hb dd_L_law_217 (by decide) ?_
    refine W.widen (k := cells + 16) (n := slots + 64) (by dsimp only; omega) (by dsimp only; omega) ?_
    exact kk P3 2 H _ ls hI hw (lv_sub hl [2, 3, 4, 5, 6] rfl)
  · skip
    obtain ⟨cd, hcd, vs, mp, hv, hM, hE⟩ := hF _ _ hp
    have hcd : cd = 3 := by
      rcases hcd with ⟨q, h⟩ | ⟨q, h⟩ | ⟨q, h⟩ <;> first | exact h | exact absurd q (by decide +kernel)
    subst hcd
    refine W.eq (g2 := F0 m 157 ls [.int (3 : Int32)]) rfl ?_
    refine lv_istore (lv' := [(5, .int (3 : Int32)), (0, .ref b), (1, .ref h0), (2, .ref hm), (3, .ref ao), (4, .int (nI i))]) hx hb dd_L_law_157 hl (by decide) rfl (fun ls hl => ?_)
    refine lv_aload_n hx hb dd_L_law_159 rfl (lv_at hl 3 rfl) ?_
    refine lv_aload_n hx hb dd_L_law_160 rfl (lv_at hl 1 rfl) ?_
    refine lv_iload hx hb dd_L_law_161 (lv_at hl 5 rfl) ?_
    refine lv_iconst (v := 1) hx hb dd_L_law_163 (by decide) ?_
    refine lv_iadd hx hb dd_L_law_164 ?_
    refine va_sld hx hb hX hbl hbA hw.2.2 hv1 dd_L_law_165 ?_
    refine lv_aload_n hx hb dd_L_law_166 rfl (lv_at hl 1 rfl) ?_
    refine lv_iload hx hb dd_L_law_167 (lv_at hl 5 rfl) ?_
    refine lv_iconst (v := 2) hx hb dd_L_law_169 (by decide) ?_
    refine lv_iadd hx hb dd_L_law_170 ?_
    refine va_sld hx hb hX hbl hbA hw.2.2 hv2 dd_L_law_171 ?_
    refine lv_aload_n hx hb dd_L_law_172 rfl (lv_at hl 1 rfl) ?_
    refine lv_iload hx hb dd_L_law_173 (lv_at hl 5 rfl) ?_
    refine lv_iconst (v := 3) hx hb dd_L_law_175 (by decide) ?_
    refine lv_iadd hx hb dd_L_law_176 ?_
    refine va_sld hx hb hX hbl hbA hw.2.2 hv3 dd_L_law_177 ?_
    refine lv_aload_n hx hb dd_L_law_178 rfl (lv_at hl 1 rfl) ?_
    refine lv_iload hx hb dd_L_law_179 (lv_at hl 5 rfl) ?_
    refine lv_iconst (v := 4) hx hb dd_L_law_181 (by decide) ?_
    refine lv_iadd hx hb dd_L_law_182 ?_
    refine va_sld hx hb hX hbl hbA hw.2.2 hv4 dd_L_law_183 ?_
    refine cx_after (cx_rV (n := 4) (As := [.int (xs (nI i + (1 : Int32)).toNatClampNeg), .int (xs (nI i + (2 : Int32)).toNatClampNeg), .int (xs (nI i + (3 : Int32)).toNatClampNeg), .int (xs (nI i + (4 : Int32)).toNatClampNeg)]) (rest := []) ⟨hx, hb, hml, hown, hg⟩ hM (cx_gv gm_L_89 gi_M_hydrant gs_M_hydrant gn_M gc_M_hydrant) (by decide +kernel) ⟨by decide, by decide⟩ hK hw hv rfl rfl hl.1 rfl (Nat.le_of_ble_eq_true rfl) dd_L_law_184 ⟨Nat.le_trans (by dsimp only; omega) hcs.1, Nat.le_trans (by dsimp only; omega) hcs.2⟩) hw (fun v9 P3 H locs hp hw => ?_)
    obtain ⟨⟨b9, rfl⟩, hI⟩ := hE _ _ hp
    refine W.eq (g2 := F0 m 187 ls [.int b9]) rfl ?_
    refine lv_istore (lv' := [(6, .int b9), (5, .int (3 : Int32)), (0, .ref b), (1, .ref h0), (2, .ref hm), (3, .ref ao), (4, .int (nI i))]) hx hb dd_L_law_187 hl (by decide) rfl (fun ls hl => ?_)
    refine lv_aload_n hx hb dd_L_law_189 rfl (lv_at hl 4 rfl) ?_
    obtain ⟨vs9, hv9, hM9⟩ := iv_thr (l := l) (z := z) (D := D) (sa := sa) hI
    refine cx_after (cx_rV (n := 0) (As := []) (rest := []) ⟨hx, hb, hml, hown, hg⟩ hM9 (cx_gv gm_L_90 gi_M_thrown gs_M_thrown gn_M gc_M_thrown) (by decide +kernel) ⟨by decide, by decide⟩ hK hw hv9 rfl rfl hl.1 rfl (Nat.le_of_ble_eq_true rfl) dd_L_law_190 ⟨Nat.le_trans (by dsimp only; omega) hcs.1, Nat.le_trans (by dsimp only; omega) hcs.2⟩) hw (fun v9 P9 H locs hp hw => ?_)
    obtain ⟨rfl, e9⟩ := hp
    rw [e9] at hw
    clear e9 P9
    refine W.eq (g2 := F0 m 193 ls [.int (3 : Int32)]) rfl ?_
    refine lv_iload hx hb dd_L_law_193 (lv_at hl 1 rfl) ?_
    refine lv_icmp_eq (tgt := 200) hx hb dd_L_law_195 (by decide) (fun c8 => ?_) (fun c8 => absurd (by decide) c8)
    refine lv_iload hx hb dd_L_law_200 (lv_at hl 1 rfl) ?_
    refine lv_if_ne (tgt := 217) hx hb dd_L_law_202 (by decide) (fun c9 => ?_) (fun c9 => absurd c9 (by decide))
    refine lv_goto (tgt := 1454) hx hb dd_L_law_217 (by decide) ?_
    refine W.widen (k := cells + 16) (n := slots + 64) (by dsimp only; omega) (by dsimp only; omega) ?_
    exact kk P3 3 H _ ls hI hw (lv_sub hl [2, 3, 4, 5, 6] rfl)

set_option maxHeartbeats 4000000 in
set_option maxRecDepth 100000 in
theorem lw_c1 {p : Program} {l : Launch} {e : Env} {s : State} {m : MethodId} {below : List Frame} {meth : Method} {c : Code} {b L : Nat} {xs : Nat → Int32} {z : Nat} {D : va_G} {ac : Nat → ClassId} {sa : Nat → Nat} {Q : State → Prop} (hT : l.stackTraces = false) (hL : L ≤ 3072) (C0 : lw_B p s m c b L xs z D ac sa) {i : Nat} (hi : i + 6 ≤ L) {h0 hm ao : Nat} {P : pm_T} {th : Int32} {H : Heap} {locs : List Loc} {ls : Array Slot} {cells slots : Nat} (hcs : cells + 16 ≤ room_1.cells ∧ slots + 64 ≤ room_1.slots) (hI : iv_I P ac h0 hm ao th) (hw : pm_W z D cl_w P s.heap H locs) (hl : lv_has ls 7 [(0, .ref b), (1, .ref h0), (2, .ref hm), (3, .ref ao), (4, .int (nI i))]) (kk : ∀ (P : pm_T) (th : Int32) (H : Heap) (locs : List Loc) (ls : Array Slot), iv_I P ac h0 hm ao th → pm_W z D cl_w P s.heap H locs → lv_has ls 7 [(0, .ref b), (1, .ref h0), (2, .ref hm), (3, .ref ao), (4, .int (nI i))] → W p l e room_1 s m #[Value.ref b] below meth c H locs (cells + 16) (slots + 64) Q (F0 m 1454 ls [])) : W p l e room_1 s m #[Value.ref b] below meth c H locs cells slots Q (F0 m 220 ls []) := by
  obtain ⟨hx, hb, hml, hown, hg, hX, hbl, hbA, hK⟩ := C0
  have hv1 : vp_in (nI i + (1 : Int32)) L := lw_in (k := 1) rfl hL (by omega)
  have hv2 : vp_in (nI i + (2 : Int32)) L := lw_in (k := 2) rfl hL (by omega)
  have hv3 : vp_in (nI i + (3 : Int32)) L := lw_in (k := 3) rfl hL (by omega)
  have hv4 : vp_in (nI i + (4 : Int32)) L := lw_in (k := 4) rfl hL (by omega)
  have hv5 : vp_in (nI i + (5 : Int32)) L := lw_in (k := 5) rfl hL (by omega)
  refine lv_aload_n hx hb dd_L_law_220 rfl (lv_at hl 1 rfl) ?_
  refine lv_aload_n hx hb dd_L_law_221 rfl (lv_at hl 0 rfl) ?_
  refine lv_iload hx hb dd_L_law_222 (lv_at hl 4 rfl) ?_
  refine lv_iconst (v := 1) hx hb dd_L_law_224 (by decide) ?_
  refine lv_iadd hx hb dd_L_law_225 ?_
  refine va_sld hx hb hX hbl hbA hw.2.2 hv1 dd_L_law_226 ?_
  refine lv_aload_n hx hb dd_L_law_227 rfl (lv_at hl 0 rfl) ?_
  refine lv_iload hx hb dd_L_law_228 (lv_at hl 4 rfl) ?_
  refine lv_iconst (v := 2) hx hb dd_L_law_230 (by decide) ?_
  refine lv_iadd hx hb dd_L_law_231 ?_
  refine va_sld hx hb hX hbl hbA hw.2.2 hv2 dd_L_law_232 ?_
  obtain ⟨fs, post, xp, f0, hC, hS, hF⟩ := st_limit l hT z D ac sa P h0 hm ao th (xs (nI i + (1 : Int32)).toNatClampNeg) (xs (nI i + (2 : Int32)).toNatClampNeg) hI
  refine cx_afterX (cx_rSH (n := 3) (As := [.ref h0, .int (xs (nI i + (1 : Int32)).toNatClampNeg), .int (xs (nI i + (2 : Int32)).toNatClampNeg)]) (rest := []) ⟨hx, hb, hml, hown, hg⟩ (w_limit l z D ac sa P h0 fs (xs (nI i + (1 : Int32)).toNatClampNeg) (xs (nI i + (2 : Int32)).toNatClampNeg) post xp hC (fun v P1 h => (hS v P1 h).1) (fun E P1 h => (hF E P1 h).elim (fun cd h => h.1.imp And.left And.left)) f0) gch_L_limit gm_L_94 gt_L_limit gn_L (by decide +kernel) ⟨by decide, by decide⟩ hK hw rfl hl.1 rfl (Nat.le_of_ble_eq_true rfl) dd_L_law_233 ⟨Nat.le_trans (by dsimp only; omega) hcs.1, Nat.le_trans (by dsimp only; omega) hcs.2⟩) hw (fun E9 ce9 q9 P9 H locs hp hw hce hcv hcl => hp.elim) (fun v9 P9 H locs hp hw => ?_)
  rcases hp with ⟨hp, rfl⟩ | ⟨hp, rfl⟩ | ⟨hp, rfl⟩
  · skip
    obtain ⟨-, vs, mp, hv, hM, hE⟩ := hS _ _ hp
    refine W.eq (g2 := F0 m 236 ls [.int (0 : Int32)]) rfl ?_
    refine lv_istore (lv' := [(5, .int (0 : Int32)), (0, .ref b), (1, .ref h0), (2, .ref hm), (3, .ref ao), (4, .int (nI i))]) hx hb dd_L_law_236 hl (by decide) rfl (fun ls hl => ?_)
    refine lv_aload_n hx hb dd_L_law_238 rfl (lv_at hl 3 rfl) ?_
    refine lv_aload_n hx hb dd_L_law_239 rfl (lv_at hl 1 rfl) ?_
    refine lv_iload hx hb dd_L_law_240 (lv_at hl 5 rfl) ?_
    refine lv_iconst (v := 1) hx hb dd_L_law_242 (by decide) ?_
    refine lv_iadd hx hb dd_L_law_243 ?_
    refine va_sld hx hb hX hbl hbA hw.2.2 hv1 dd_L_law_244 ?_
    refine lv_aload_n hx hb dd_L_law_245 rfl (lv_at hl 1 rfl) ?_
    refine lv_iload hx hb dd_L_law_246 (lv_at hl 5 rfl) ?_
    refine lv_iconst (v := 2) hx hb dd_L_law_248 (by decide) ?_
    refine lv_iadd hx hb dd_L_law_249 ?_
    refine va_sld hx hb hX hbl hbA hw.2.2 hv2 dd_L_law_250 ?_
    refine cx_after (cx_rV (n := 2) (As := [.int (xs (nI i + (1 : Int32)).toNatClampNeg), .int (xs (nI i + (2 : Int32)).toNatClampNeg)]) (rest := []) ⟨hx, hb, hml, hown, hg⟩ hM (cx_gv gm_L_97 gi_M_limit gs_M_limit gn_M gc_M_limit) (by decide +kernel) ⟨by decide, by decide⟩ hK hw hv rfl rfl hl.1 rfl (Nat.le_of_ble_eq_true rfl) dd_L_law_251 ⟨Nat.le_trans (by dsimp only; omega) hcs.1, Nat.le_trans (by dsimp only; omega) hcs.2⟩) hw (fun v9 P3 H locs hp hw => ?_)
    obtain ⟨rfl, hI⟩ := hE _ _ hp
    refine W.eq (g2 := F0 m 254 ls []) rfl ?_
    refine lv_aload_n hx hb dd_L_law_254 rfl (lv_at hl 3 rfl) ?_
    obtain ⟨vs9, hv9, hM9⟩ := iv_thr (l := l) (z := z) (D := D) (sa := sa) hI
    refine cx_after (cx_rV (n := 0) (As := []) (rest := []) ⟨hx, hb, hml, hown, hg⟩ hM9 (cx_gv gm_L_90 gi_M_thrown gs_M_thrown gn_M gc_M_thrown) (by decide +kernel) ⟨by decide, by decide⟩ hK hw hv9 rfl rfl hl.1 rfl (Nat.le_of_ble_eq_true rfl) dd_L_law_255 ⟨Nat.le_trans (by dsimp only; omega) hcs.1, Nat.le_trans (by dsimp only; omega) hcs.2⟩) hw (fun v9 P9 H locs hp hw => ?_)
    obtain ⟨rfl, e9⟩ := hp
    rw [e9] at hw
    clear e9 P9
    refine W.eq (g2 := F0 m 258 ls [.int (0 : Int32)]) rfl ?_
    refine lv_iload hx hb dd_L_law_258 (lv_at hl 0 rfl) ?_
    refine lv_icmp_eq (tgt := 265) hx hb dd_L_law_260 (by decide) (fun c1 => ?_) (fun c1 => absurd (by decide) c1)
    refine lv_goto (tgt := 1454) hx hb dd_L_law_265 (by decide) ?_
    refine W.widen (k := cells + 16) (n := slots + 64) (by dsimp only; omega) (by dsimp only; omega) ?_
    exact kk P3 0 H _ ls hI hw (lv_sub hl [1, 2, 3, 4, 5] rfl)
  · skip
    obtain ⟨cd, hcd, vs, mp, hv, hM, hE⟩ := hF _ _ hp
    have hcd : cd = 1 := by
      rcases hcd with ⟨q, h⟩ | ⟨q, h⟩ <;> first | exact h | exact absurd q (by decide +kernel)
    subst hcd
    refine W.eq (g2 := F0 m 236 ls [.int (1 : Int32)]) rfl ?_
    refine lv_istore (lv' := [(5, .int (1 : Int32)), (0, .ref b), (1, .ref h0), (2, .ref hm), (3, .ref ao), (4, .int (nI i))]) hx hb dd_L_law_236 hl (by decide) rfl (fun ls hl => ?_)
    refine lv_aload_n hx hb dd_L_law_238 rfl (lv_at hl 3 rfl) ?_
    refine lv_aload_n hx hb dd_L_law_239 rfl (lv_at hl 1 rfl) ?_
    refine lv_iload hx hb dd_L_law_240 (lv_at hl 5 rfl) ?_
    refine lv_iconst (v := 1) hx hb dd_L_law_242 (by decide) ?_
    refine lv_iadd hx hb dd_L_law_243 ?_
    refine va_sld hx hb hX hbl hbA hw.2.2 hv1 dd_L_law_244 ?_
    refine lv_aload_n hx hb dd_L_law_245 rfl (lv_at hl 1 rfl) ?_
    refine lv_iload hx hb dd_L_law_246 (lv_at hl 5 rfl) ?_
    refine lv_iconst (v := 2) hx hb dd_L_law_248 (by decide) ?_
    refine lv_iadd hx hb dd_L_law_249 ?_
    refine va_sld hx hb hX hbl hbA hw.2.2 hv2 dd_L_law_250 ?_
    refine cx_after (cx_rV (n := 2) (As := [.int (xs (nI i + (1 : Int32)).toNatClampNeg), .int (xs (nI i + (2 : Int32)).toNatClampNeg)]) (rest := []) ⟨hx, hb, hml, hown, hg⟩ hM (cx_gv gm_L_97 gi_M_limit gs_M_limit gn_M gc_M_limit) (by decide +kernel) ⟨by decide, by decide⟩ hK hw hv rfl rfl hl.1 rfl (Nat.le_of_ble_eq_true rfl) dd_L_law_251 ⟨Nat.le_trans (by dsimp only; omega) hcs.1, Nat.le_trans (by dsimp only; omega) hcs.2⟩) hw (fun v9 P3 H locs hp hw => ?_)
    obtain ⟨rfl, hI⟩ := hE _ _ hp
    refine W.eq (g2 := F0 m 254 ls []) rfl ?_
    refine lv_aload_n hx hb dd_L_law_254 rfl (lv_at hl 3 rfl) ?_
    obtain ⟨vs9, hv9, hM9⟩ := iv_thr (l := l) (z := z) (D := D) (sa := sa) hI
    refine cx_after (cx_rV (n := 0) (As := []) (rest := []) ⟨hx, hb, hml, hown, hg⟩ hM9 (cx_gv gm_L_90 gi_M_thrown gs_M_thrown gn_M gc_M_thrown) (by decide +kernel) ⟨by decide, by decide⟩ hK hw hv9 rfl rfl hl.1 rfl (Nat.le_of_ble_eq_true rfl) dd_L_law_255 ⟨Nat.le_trans (by dsimp only; omega) hcs.1, Nat.le_trans (by dsimp only; omega) hcs.2⟩) hw (fun v9 P9 H locs hp hw => ?_)
    obtain ⟨rfl, e9⟩ := hp
    rw [e9] at hw
    clear e9 P9
    refine W.eq (g2 := F0 m 258 ls [.int (1 : Int32)]) rfl ?_
    refine lv_iload hx hb dd_L_law_258 (lv_at hl 0 rfl) ?_
    refine lv_icmp_eq (tgt := 265) hx hb dd_L_law_260 (by decide) (fun c2 => ?_) (fun c2 => absurd (by decide) c2)
    refine lv_goto (tgt := 1454) hx hb dd_L_law_265 (by decide) ?_
    refine W.widen (k := cells + 16) (n := slots + 64) (by dsimp only; omega) (by dsimp only; omega) ?_
    exact kk P3 1 H _ ls hI hw (lv_sub hl [1, 2, 3, 4, 5] rfl)
  · skip
    obtain ⟨cd, hcd, vs, mp, hv, hM, hE⟩ := hF _ _ hp
    have hcd : cd = 2 := by
      rcases hcd with ⟨q, h⟩ | ⟨q, h⟩ <;> first | exact h | exact absurd q (by decide +kernel)
    subst hcd
    refine W.eq (g2 := F0 m 236 ls [.int (2 : Int32)]) rfl ?_
    refine lv_istore (lv' := [(5, .int (2 : Int32)), (0, .ref b), (1, .ref h0), (2, .ref hm), (3, .ref ao), (4, .int (nI i))]) hx hb dd_L_law_236 hl (by decide) rfl (fun ls hl => ?_)
    refine lv_aload_n hx hb dd_L_law_238 rfl (lv_at hl 3 rfl) ?_
    refine lv_aload_n hx hb dd_L_law_239 rfl (lv_at hl 1 rfl) ?_
    refine lv_iload hx hb dd_L_law_240 (lv_at hl 5 rfl) ?_
    refine lv_iconst (v := 1) hx hb dd_L_law_242 (by decide) ?_
    refine lv_iadd hx hb dd_L_law_243 ?_
    refine va_sld hx hb hX hbl hbA hw.2.2 hv1 dd_L_law_244 ?_
    refine lv_aload_n hx hb dd_L_law_245 rfl (lv_at hl 1 rfl) ?_
    refine lv_iload hx hb dd_L_law_246 (lv_at hl 5 rfl) ?_
    refine lv_iconst (v := 2) hx hb dd_L_law_248 (by decide) ?_
    refine lv_iadd hx hb dd_L_law_249 ?_
    refine va_sld hx hb hX hbl hbA hw.2.2 hv2 dd_L_law_250 ?_
    refine cx_after (cx_rV (n := 2) (As := [.int (xs (nI i + (1 : Int32)).toNatClampNeg), .int (xs (nI i + (2 : Int32)).toNatClampNeg)]) (rest := []) ⟨hx, hb, hml, hown, hg⟩ hM (cx_gv gm_L_97 gi_M_limit gs_M_limit gn_M gc_M_limit) (by decide +kernel) ⟨by decide, by decide⟩ hK hw hv rfl rfl hl.1 rfl (Nat.le_of_ble_eq_true rfl) dd_L_law_251 ⟨Nat.le_trans (by dsimp only; omega) hcs.1, Nat.le_trans (by dsimp only; omega) hcs.2⟩) hw (fun v9 P3 H locs hp hw => ?_)
    obtain ⟨rfl, hI⟩ := hE _ _ hp
    refine W.eq (g2 := F0 m 254 ls []) rfl ?_
    refine lv_aload_n hx hb dd_L_law_254 rfl (lv_at hl 3 rfl) ?_
    obtain ⟨vs9, hv9, hM9⟩ := iv_thr (l := l) (z := z) (D := D) (sa := sa) hI
    refine cx_after (cx_rV (n := 0) (As := []) (rest := []) ⟨hx, hb, hml, hown, hg⟩ hM9 (cx_gv gm_L_90 gi_M_thrown gs_M_thrown gn_M gc_M_thrown) (by decide +kernel) ⟨by decide, by decide⟩ hK hw hv9 rfl rfl hl.1 rfl (Nat.le_of_ble_eq_true rfl) dd_L_law_255 ⟨Nat.le_trans (by dsimp only; omega) hcs.1, Nat.le_trans (by dsimp only; omega) hcs.2⟩) hw (fun v9 P9 H locs hp hw => ?_)
    obtain ⟨rfl, e9⟩ := hp
    rw [e9] at hw
    clear e9 P9
    refine W.eq (g2 := F0 m 258 ls [.int (2 : Int32)]) rfl ?_
    refine lv_iload hx hb dd_L_law_258 (lv_at hl 0 rfl) ?_
    refine lv_icmp_eq (tgt := 265) hx hb dd_L_law_260 (by decide) (fun c3 => ?_) (fun c3 => absurd (by decide) c3)
    refine lv_goto (tgt := 1454) hx hb dd_L_law_265 (by decide) ?_
    refine W.widen (k := cells + 16) (n := slots + 64) (by dsimp only; omega) (by dsimp only; omega) ?_
    exact kk P3 2 H _ ls hI hw (lv_sub hl [1, 2, 3, 4, 5] rfl)

set_option maxHeartbeats 4000000 in
set_option maxRecDepth 100000 in
theorem lw_c2 {p : Program} {l : Launch} {e : Env} {s : State} {m : MethodId} {below : List Frame} {meth : Method} {c : Code} {b L : Nat} {xs : Nat → Int32} {z : Nat} {D : va_G} {ac : Nat → ClassId} {sa : Nat → Nat} {Q : State → Prop} (hT : l.stackTraces = false) (hL : L ≤ 3072) (C0 : lw_B p s m c b L xs z D ac sa) {i : Nat} (hi : i + 6 ≤ L) {h0 hm ao : Nat} {P : pm_T} {th : Int32} {H : Heap} {locs : List Loc} {ls : Array Slot} {cells slots : Nat} (hcs : cells + 16 ≤ room_1.cells ∧ slots + 64 ≤ room_1.slots) (hI : iv_I P ac h0 hm ao th) (hw : pm_W z D cl_w P s.heap H locs) (hl : lv_has ls 7 [(0, .ref b), (1, .ref h0), (2, .ref hm), (3, .ref ao), (4, .int (nI i))]) (kk : ∀ (P : pm_T) (th : Int32) (H : Heap) (locs : List Loc) (ls : Array Slot), iv_I P ac h0 hm ao th → pm_W z D cl_w P s.heap H locs → lv_has ls 7 [(0, .ref b), (1, .ref h0), (2, .ref hm), (3, .ref ao), (4, .int (nI i))] → W p l e room_1 s m #[Value.ref b] below meth c H locs (cells + 16) (slots + 64) Q (F0 m 1454 ls [])) : W p l e room_1 s m #[Value.ref b] below meth c H locs cells slots Q (F0 m 268 ls []) := by
  obtain ⟨hx, hb, hml, hown, hg, hX, hbl, hbA, hK⟩ := C0
  have hv1 : vp_in (nI i + (1 : Int32)) L := lw_in (k := 1) rfl hL (by omega)
  have hv2 : vp_in (nI i + (2 : Int32)) L := lw_in (k := 2) rfl hL (by omega)
  have hv3 : vp_in (nI i + (3 : Int32)) L := lw_in (k := 3) rfl hL (by omega)
  have hv4 : vp_in (nI i + (4 : Int32)) L := lw_in (k := 4) rfl hL (by omega)
  have hv5 : vp_in (nI i + (5 : Int32)) L := lw_in (k := 5) rfl hL (by omega)
  refine lv_aload_n hx hb dd_L_law_268 rfl (lv_at hl 1 rfl) ?_
  refine lv_aload_n hx hb dd_L_law_269 rfl (lv_at hl 0 rfl) ?_
  refine lv_iload hx hb dd_L_law_270 (lv_at hl 4 rfl) ?_
  refine lv_iconst (v := 1) hx hb dd_L_law_272 (by decide) ?_
  refine lv_iadd hx hb dd_L_law_273 ?_
  refine va_sld hx hb hX hbl hbA hw.2.2 hv1 dd_L_law_274 ?_
  refine lv_if_eq (tgt := 282) hx hb dd_L_law_275 (by decide) (fun c1 => ?_) (fun c1 => ?_)
  · skip
    refine lv_iconst (v := 0) hx hb dd_L_law_282 (by decide) ?_
    obtain ⟨fs, post, f0, hC, hS⟩ := st_allow l z D ac sa P h0 hm ao th (0 : Int32) (.inl rfl) hI
    refine cx_after (cx_rV (n := 1) (As := [.int (0 : Int32)]) (rest := []) ⟨hx, hb, hml, hown, hg⟩ hC (cx_gv gm_L_98 gi_C_allow gs_C_allow gn_C gc_C_allow) (by decide +kernel) ⟨by decide, by decide⟩ hK hw f0 rfl rfl hl.1 rfl (Nat.le_of_ble_eq_true rfl) dd_L_law_283 ⟨Nat.le_trans (by dsimp only; omega) hcs.1, Nat.le_trans (by dsimp only; omega) hcs.2⟩) hw (fun v9 P9 H locs hp hw => ?_)
    obtain ⟨rfl, vs, mp, hv, hM, hE⟩ := hS _ _ hp
    refine W.eq (g2 := F0 m 286 ls []) rfl ?_
    refine lv_aload_n hx hb dd_L_law_286 rfl (lv_at hl 2 rfl) ?_
    refine lv_aload_n hx hb dd_L_law_287 rfl (lv_at hl 0 rfl) ?_
    refine lv_iload hx hb dd_L_law_288 (lv_at hl 4 rfl) ?_
    refine lv_iconst (v := 1) hx hb dd_L_law_290 (by decide) ?_
    refine lv_iadd hx hb dd_L_law_291 ?_
    refine va_sld hx hb hX hbl hbA hw.2.2 hv1 dd_L_law_292 ?_
    refine lv_if_eq (tgt := 300) hx hb dd_L_law_293 (by decide) (fun c2 => ?_) (fun c2 => absurd c1 c2)
    refine lv_iconst (v := 0) hx hb dd_L_law_300 (by decide) ?_
    refine cx_after (cx_rV (n := 1) (As := [.int (0 : Int32)]) (rest := []) ⟨hx, hb, hml, hown, hg⟩ hM (cx_gv gm_L_102 gi_M_allow gs_M_allow gn_M gc_M_allow) (by decide +kernel) ⟨by decide, by decide⟩ hK hw hv rfl rfl hl.1 rfl (Nat.le_of_ble_eq_true rfl) dd_L_law_301 ⟨Nat.le_trans (by dsimp only; omega) hcs.1, Nat.le_trans (by dsimp only; omega) hcs.2⟩) hw (fun v9 P3 H locs hp hw => ?_)
    obtain ⟨rfl, hI⟩ := hE _ _ hp
    refine W.eq (g2 := F0 m 304 ls []) rfl ?_
    refine lv_goto (tgt := 1454) hx hb dd_L_law_304 (by decide) ?_
    refine W.widen (k := cells + 16) (n := slots + 64) (by dsimp only; omega) (by dsimp only; omega) ?_
    exact kk P3 0 H _ ls hI hw (lv_sub hl [0, 1, 2, 3, 4] rfl)
  · skip
    refine lv_iconst (v := 1) hx hb dd_L_law_278 (by decide) ?_
    refine lv_goto (tgt := 283) hx hb dd_L_law_279 (by decide) ?_
    obtain ⟨fs, post, f0, hC, hS⟩ := st_allow l z D ac sa P h0 hm ao th (1 : Int32) (.inr rfl) hI
    refine cx_after (cx_rV (n := 1) (As := [.int (1 : Int32)]) (rest := []) ⟨hx, hb, hml, hown, hg⟩ hC (cx_gv gm_L_98 gi_C_allow gs_C_allow gn_C gc_C_allow) (by decide +kernel) ⟨by decide, by decide⟩ hK hw f0 rfl rfl hl.1 rfl (Nat.le_of_ble_eq_true rfl) dd_L_law_283 ⟨Nat.le_trans (by dsimp only; omega) hcs.1, Nat.le_trans (by dsimp only; omega) hcs.2⟩) hw (fun v9 P9 H locs hp hw => ?_)
    obtain ⟨rfl, vs, mp, hv, hM, hE⟩ := hS _ _ hp
    refine W.eq (g2 := F0 m 286 ls []) rfl ?_
    refine lv_aload_n hx hb dd_L_law_286 rfl (lv_at hl 2 rfl) ?_
    refine lv_aload_n hx hb dd_L_law_287 rfl (lv_at hl 0 rfl) ?_
    refine lv_iload hx hb dd_L_law_288 (lv_at hl 4 rfl) ?_
    refine lv_iconst (v := 1) hx hb dd_L_law_290 (by decide) ?_
    refine lv_iadd hx hb dd_L_law_291 ?_
    refine va_sld hx hb hX hbl hbA hw.2.2 hv1 dd_L_law_292 ?_
    refine lv_if_eq (tgt := 300) hx hb dd_L_law_293 (by decide) (fun c3 => absurd c3 c1) (fun c3 => ?_)
    refine lv_iconst (v := 1) hx hb dd_L_law_296 (by decide) ?_
    refine lv_goto (tgt := 301) hx hb dd_L_law_297 (by decide) ?_
    refine cx_after (cx_rV (n := 1) (As := [.int (1 : Int32)]) (rest := []) ⟨hx, hb, hml, hown, hg⟩ hM (cx_gv gm_L_102 gi_M_allow gs_M_allow gn_M gc_M_allow) (by decide +kernel) ⟨by decide, by decide⟩ hK hw hv rfl rfl hl.1 rfl (Nat.le_of_ble_eq_true rfl) dd_L_law_301 ⟨Nat.le_trans (by dsimp only; omega) hcs.1, Nat.le_trans (by dsimp only; omega) hcs.2⟩) hw (fun v9 P3 H locs hp hw => ?_)
    obtain ⟨rfl, hI⟩ := hE _ _ hp
    refine W.eq (g2 := F0 m 304 ls []) rfl ?_
    refine lv_goto (tgt := 1454) hx hb dd_L_law_304 (by decide) ?_
    refine W.widen (k := cells + 16) (n := slots + 64) (by dsimp only; omega) (by dsimp only; omega) ?_
    exact kk P3 0 H _ ls hI hw (lv_sub hl [0, 1, 2, 3, 4] rfl)

set_option maxHeartbeats 4000000 in
set_option maxRecDepth 100000 in
theorem lw_c3 {p : Program} {l : Launch} {e : Env} {s : State} {m : MethodId} {below : List Frame} {meth : Method} {c : Code} {b L : Nat} {xs : Nat → Int32} {z : Nat} {D : va_G} {ac : Nat → ClassId} {sa : Nat → Nat} {Q : State → Prop} (hT : l.stackTraces = false) (hL : L ≤ 3072) (C0 : lw_B p s m c b L xs z D ac sa) {i : Nat} (hi : i + 6 ≤ L) {h0 hm ao : Nat} {P : pm_T} {th : Int32} {H : Heap} {locs : List Loc} {ls : Array Slot} {cells slots : Nat} (hcs : cells + 16 ≤ room_1.cells ∧ slots + 64 ≤ room_1.slots) (hI : iv_I P ac h0 hm ao th) (hw : pm_W z D cl_w P s.heap H locs) (hl : lv_has ls 7 [(0, .ref b), (1, .ref h0), (2, .ref hm), (3, .ref ao), (4, .int (nI i))]) (kk : ∀ (P : pm_T) (th : Int32) (H : Heap) (locs : List Loc) (ls : Array Slot), iv_I P ac h0 hm ao th → pm_W z D cl_w P s.heap H locs → lv_has ls 7 [(0, .ref b), (1, .ref h0), (2, .ref hm), (3, .ref ao), (4, .int (nI i))] → W p l e room_1 s m #[Value.ref b] below meth c H locs (cells + 16) (slots + 64) Q (F0 m 1454 ls [])) : W p l e room_1 s m #[Value.ref b] below meth c H locs cells slots Q (F0 m 307 ls []) := by
  obtain ⟨hx, hb, hml, hown, hg, hX, hbl, hbA, hK⟩ := C0
  have hv1 : vp_in (nI i + (1 : Int32)) L := lw_in (k := 1) rfl hL (by omega)
  have hv2 : vp_in (nI i + (2 : Int32)) L := lw_in (k := 2) rfl hL (by omega)
  have hv3 : vp_in (nI i + (3 : Int32)) L := lw_in (k := 3) rfl hL (by omega)
  have hv4 : vp_in (nI i + (4 : Int32)) L := lw_in (k := 4) rfl hL (by omega)
  have hv5 : vp_in (nI i + (5 : Int32)) L := lw_in (k := 5) rfl hL (by omega)
  refine lv_aload_n hx hb dd_L_law_307 rfl (lv_at hl 1 rfl) ?_
  refine lv_aload_n hx hb dd_L_law_308 rfl (lv_at hl 0 rfl) ?_
  refine lv_iload hx hb dd_L_law_309 (lv_at hl 4 rfl) ?_
  refine lv_iconst (v := 1) hx hb dd_L_law_311 (by decide) ?_
  refine lv_iadd hx hb dd_L_law_312 ?_
  refine va_sld hx hb hX hbl hbA hw.2.2 hv1 dd_L_law_313 ?_
  refine lv_aload_n hx hb dd_L_law_314 rfl (lv_at hl 0 rfl) ?_
  refine lv_iload hx hb dd_L_law_315 (lv_at hl 4 rfl) ?_
  refine lv_iconst (v := 2) hx hb dd_L_law_317 (by decide) ?_
  refine lv_iadd hx hb dd_L_law_318 ?_
  refine va_sld hx hb hX hbl hbA hw.2.2 hv2 dd_L_law_319 ?_
  refine lv_aload_n hx hb dd_L_law_320 rfl (lv_at hl 0 rfl) ?_
  refine lv_iload hx hb dd_L_law_321 (lv_at hl 4 rfl) ?_
  refine lv_iconst (v := 3) hx hb dd_L_law_323 (by decide) ?_
  refine lv_iadd hx hb dd_L_law_324 ?_
  refine va_sld hx hb hX hbl hbA hw.2.2 hv3 dd_L_law_325 ?_
  refine lv_aload_n hx hb dd_L_law_326 rfl (lv_at hl 0 rfl) ?_
  refine lv_iload hx hb dd_L_law_327 (lv_at hl 4 rfl) ?_
  refine lv_iconst (v := 4) hx hb dd_L_law_329 (by decide) ?_
  refine lv_iadd hx hb dd_L_law_330 ?_
  refine va_sld hx hb hX hbl hbA hw.2.2 hv4 dd_L_law_331 ?_
  refine lv_aload_n hx hb dd_L_law_332 rfl (lv_at hl 0 rfl) ?_
  refine lv_iload hx hb dd_L_law_333 (lv_at hl 4 rfl) ?_
  refine lv_iconst (v := 5) hx hb dd_L_law_335 (by decide) ?_
  refine lv_iadd hx hb dd_L_law_336 ?_
  refine va_sld hx hb hX hbl hbA hw.2.2 hv5 dd_L_law_337 ?_
  refine lv_aload_n hx hb dd_L_law_338 rfl (lv_at hl 3 rfl) ?_
  obtain ⟨fs, post, xp, f0, hC, hS, hF⟩ := st_test l hT z D ac sa P h0 hm ao th (xs (nI i + (1 : Int32)).toNatClampNeg) (xs (nI i + (2 : Int32)).toNatClampNeg) (xs (nI i + (3 : Int32)).toNatClampNeg) (xs (nI i + (4 : Int32)).toNatClampNeg) (xs (nI i + (5 : Int32)).toNatClampNeg) hI
  refine cx_afterX (cx_rSH (n := 7) (As := [.ref h0, .int (xs (nI i + (1 : Int32)).toNatClampNeg), .int (xs (nI i + (2 : Int32)).toNatClampNeg), .int (xs (nI i + (3 : Int32)).toNatClampNeg), .int (xs (nI i + (4 : Int32)).toNatClampNeg), .int (xs (nI i + (5 : Int32)).toNatClampNeg), .ref ao]) (rest := []) ⟨hx, hb, hml, hown, hg⟩ (w_test l z D ac sa P h0 ao fs (xs (nI i + (1 : Int32)).toNatClampNeg) (xs (nI i + (2 : Int32)).toNatClampNeg) (xs (nI i + (3 : Int32)).toNatClampNeg) (xs (nI i + (4 : Int32)).toNatClampNeg) (xs (nI i + (5 : Int32)).toNatClampNeg) post xp hC (fun v P1 h => (hS v P1 h).elim (fun r h => h.elim (fun fo h => ⟨r, fo, h.1, h.2.1⟩))) (fun E P1 h => (hF E P1 h).elim (fun cd h => h.1.imp And.left (Or.imp And.left (Or.imp And.left And.left)))) f0) gch_L_test gm_L_103 gt_L_test gn_L (by decide +kernel) ⟨by decide, by decide⟩ hK hw rfl hl.1 rfl (Nat.le_of_ble_eq_true rfl) dd_L_law_339 ⟨Nat.le_trans (by dsimp only; omega) hcs.1, Nat.le_trans (by dsimp only; omega) hcs.2⟩) hw (fun E9 ce9 q9 P9 H locs hp hw hce hcv hcl => hp.elim) (fun v9 P9 H locs hp hw => ?_)
  rcases hp with ⟨r, P1, fo, hp, fo9, rfl, e9⟩ | ⟨hp, rfl⟩ | ⟨hp, rfl⟩ | ⟨hp, rfl⟩ | ⟨hp, rfl⟩
  · skip
    rw [e9] at hw
    clear e9 P9
    obtain ⟨r1, fo1, e1, -, hN⟩ := hS _ _ hp
    have e1 : r = r1 := Value.int.inj (Option.some.inj e1)
    subst e1
    obtain ⟨vs, mp, hv, hM, hE⟩ := hN (vp_updL fo 0 r.toInt64)
    refine W.eq (g2 := F0 m 342 ls [.int (0 : Int32)]) rfl ?_
    refine lv_istore (lv' := [(5, .int (0 : Int32)), (0, .ref b), (1, .ref h0), (2, .ref hm), (3, .ref ao), (4, .int (nI i))]) hx hb dd_L_law_342 hl (by decide) rfl (fun ls hl => ?_)
    refine lv_aload_n hx hb dd_L_law_344 rfl (lv_at hl 3 rfl) ?_
    refine lv_aload_n hx hb dd_L_law_345 rfl (lv_at hl 1 rfl) ?_
    refine lv_iload hx hb dd_L_law_346 (lv_at hl 5 rfl) ?_
    refine lv_iconst (v := 1) hx hb dd_L_law_348 (by decide) ?_
    refine lv_iadd hx hb dd_L_law_349 ?_
    refine va_sld hx hb hX hbl hbA hw.2.2 hv1 dd_L_law_350 ?_
    refine lv_aload_n hx hb dd_L_law_351 rfl (lv_at hl 1 rfl) ?_
    refine lv_iload hx hb dd_L_law_352 (lv_at hl 5 rfl) ?_
    refine lv_iconst (v := 2) hx hb dd_L_law_354 (by decide) ?_
    refine lv_iadd hx hb dd_L_law_355 ?_
    refine va_sld hx hb hX hbl hbA hw.2.2 hv2 dd_L_law_356 ?_
    refine lv_aload_n hx hb dd_L_law_357 rfl (lv_at hl 1 rfl) ?_
    refine lv_iload hx hb dd_L_law_358 (lv_at hl 5 rfl) ?_
    refine lv_iconst (v := 3) hx hb dd_L_law_360 (by decide) ?_
    refine lv_iadd hx hb dd_L_law_361 ?_
    refine va_sld hx hb hX hbl hbA hw.2.2 hv3 dd_L_law_362 ?_
    refine lv_aload_n hx hb dd_L_law_363 rfl (lv_at hl 1 rfl) ?_
    refine lv_iload hx hb dd_L_law_364 (lv_at hl 5 rfl) ?_
    refine lv_iconst (v := 4) hx hb dd_L_law_366 (by decide) ?_
    refine lv_iadd hx hb dd_L_law_367 ?_
    refine va_sld hx hb hX hbl hbA hw.2.2 hv4 dd_L_law_368 ?_
    refine lv_aload_n hx hb dd_L_law_369 rfl (lv_at hl 1 rfl) ?_
    refine lv_iload hx hb dd_L_law_370 (lv_at hl 5 rfl) ?_
    refine lv_iconst (v := 5) hx hb dd_L_law_372 (by decide) ?_
    refine lv_iadd hx hb dd_L_law_373 ?_
    refine va_sld hx hb hX hbl hbA hw.2.2 hv5 dd_L_law_374 ?_
    refine cx_after (cx_rV (n := 5) (As := [.int (xs (nI i + (1 : Int32)).toNatClampNeg), .int (xs (nI i + (2 : Int32)).toNatClampNeg), .int (xs (nI i + (3 : Int32)).toNatClampNeg), .int (xs (nI i + (4 : Int32)).toNatClampNeg), .int (xs (nI i + (5 : Int32)).toNatClampNeg)]) (rest := []) ⟨hx, hb, hml, hown, hg⟩ hM (cx_gv gm_L_106 gi_M_test gs_M_test gn_M gc_M_test) (by decide +kernel) ⟨by decide, by decide⟩ hK hw hv rfl rfl hl.1 rfl (Nat.le_of_ble_eq_true rfl) dd_L_law_375 ⟨Nat.le_trans (by dsimp only; omega) hcs.1, Nat.le_trans (by dsimp only; omega) hcs.2⟩) hw (fun v9 P3 H locs hp hw => ?_)
    obtain ⟨rfl, hI, hao⟩ := hE _ _ hp
    refine W.eq (g2 := F0 m 378 ls [.int r]) rfl ?_
    refine lv_istore (lv' := [(6, .int r), (5, .int (0 : Int32)), (0, .ref b), (1, .ref h0), (2, .ref hm), (3, .ref ao), (4, .int (nI i))]) hx hb dd_L_law_378 hl (by decide) rfl (fun ls hl => ?_)
    refine lv_aload_n hx hb dd_L_law_380 rfl (lv_at hl 4 rfl) ?_
    obtain ⟨vs9, hv9, hM9⟩ := iv_thr (l := l) (z := z) (D := D) (sa := sa) hI
    refine cx_after (cx_rV (n := 0) (As := []) (rest := []) ⟨hx, hb, hml, hown, hg⟩ hM9 (cx_gv gm_L_90 gi_M_thrown gs_M_thrown gn_M gc_M_thrown) (by decide +kernel) ⟨by decide, by decide⟩ hK hw hv9 rfl rfl hl.1 rfl (Nat.le_of_ble_eq_true rfl) dd_L_law_381 ⟨Nat.le_trans (by dsimp only; omega) hcs.1, Nat.le_trans (by dsimp only; omega) hcs.2⟩) hw (fun v9 P9 H locs hp hw => ?_)
    obtain ⟨rfl, e9⟩ := hp
    rw [e9] at hw
    clear e9 P9
    refine W.eq (g2 := F0 m 384 ls [.int (0 : Int32)]) rfl ?_
    refine lv_iload hx hb dd_L_law_384 (lv_at hl 1 rfl) ?_
    refine lv_icmp_eq (tgt := 391) hx hb dd_L_law_386 (by decide) (fun c1 => ?_) (fun c1 => absurd (by decide) c1)
    refine lv_iload hx hb dd_L_law_391 (lv_at hl 1 rfl) ?_
    refine lv_if_ne (tgt := 408) hx hb dd_L_law_393 (by decide) (fun c2 => absurd (by decide) c2) (fun c2 => ?_)
    refine lv_aload_n hx hb dd_L_law_396 rfl (lv_at hl 5 rfl) ?_
    refine lv_iconst (v := 0) hx hb dd_L_law_397 (by decide) ?_
    refine pm_lald hx hb hK.2.1 hw 1 hao rfl (show vp_in (0 : Int32) 1 from vp_in_nI (n := 0) (by decide) (by decide)) dd_L_law_398 ?_
    refine lv_iload hx hb dd_L_law_399 (lv_at hl 0 rfl) ?_
    refine lv_i2l hx hb dd_L_law_401 rfl ?_
    refine W.lcmp hx hb dd_L_law_402 ?_
    refine lv_if_eq (tgt := 408) hx hb dd_L_law_403 (by decide) (fun c3 => ?_) (fun c3 => absurd (lw_cmp rfl) c3)
    refine lv_goto (tgt := 1454) hx hb dd_L_law_408 (by decide) ?_
    refine W.widen (k := cells + 16) (n := slots + 64) (by dsimp only; omega) (by dsimp only; omega) ?_
    exact kk P3 0 H _ ls hI hw (lv_sub hl [2, 3, 4, 5, 6] rfl)
  · skip
    obtain ⟨cd, hcd, vs, mp, hv, hM, hE⟩ := hF _ _ hp
    have hcd : cd = 1 := by
      rcases hcd with ⟨q, h⟩ | ⟨q, h⟩ | ⟨q, h⟩ | ⟨q, h⟩ <;> first | exact h | exact absurd q (by decide +kernel)
    subst hcd
    refine W.eq (g2 := F0 m 342 ls [.int (1 : Int32)]) rfl ?_
    refine lv_istore (lv' := [(5, .int (1 : Int32)), (0, .ref b), (1, .ref h0), (2, .ref hm), (3, .ref ao), (4, .int (nI i))]) hx hb dd_L_law_342 hl (by decide) rfl (fun ls hl => ?_)
    refine lv_aload_n hx hb dd_L_law_344 rfl (lv_at hl 3 rfl) ?_
    refine lv_aload_n hx hb dd_L_law_345 rfl (lv_at hl 1 rfl) ?_
    refine lv_iload hx hb dd_L_law_346 (lv_at hl 5 rfl) ?_
    refine lv_iconst (v := 1) hx hb dd_L_law_348 (by decide) ?_
    refine lv_iadd hx hb dd_L_law_349 ?_
    refine va_sld hx hb hX hbl hbA hw.2.2 hv1 dd_L_law_350 ?_
    refine lv_aload_n hx hb dd_L_law_351 rfl (lv_at hl 1 rfl) ?_
    refine lv_iload hx hb dd_L_law_352 (lv_at hl 5 rfl) ?_
    refine lv_iconst (v := 2) hx hb dd_L_law_354 (by decide) ?_
    refine lv_iadd hx hb dd_L_law_355 ?_
    refine va_sld hx hb hX hbl hbA hw.2.2 hv2 dd_L_law_356 ?_
    refine lv_aload_n hx hb dd_L_law_357 rfl (lv_at hl 1 rfl) ?_
    refine lv_iload hx hb dd_L_law_358 (lv_at hl 5 rfl) ?_
    refine lv_iconst (v := 3) hx hb dd_L_law_360 (by decide) ?_
    refine lv_iadd hx hb dd_L_law_361 ?_
    refine va_sld hx hb hX hbl hbA hw.2.2 hv3 dd_L_law_362 ?_
    refine lv_aload_n hx hb dd_L_law_363 rfl (lv_at hl 1 rfl) ?_
    refine lv_iload hx hb dd_L_law_364 (lv_at hl 5 rfl) ?_
    refine lv_iconst (v := 4) hx hb dd_L_law_366 (by decide) ?_
    refine lv_iadd hx hb dd_L_law_367 ?_
    refine va_sld hx hb hX hbl hbA hw.2.2 hv4 dd_L_law_368 ?_
    refine lv_aload_n hx hb dd_L_law_369 rfl (lv_at hl 1 rfl) ?_
    refine lv_iload hx hb dd_L_law_370 (lv_at hl 5 rfl) ?_
    refine lv_iconst (v := 5) hx hb dd_L_law_372 (by decide) ?_
    refine lv_iadd hx hb dd_L_law_373 ?_
    refine va_sld hx hb hX hbl hbA hw.2.2 hv5 dd_L_law_374 ?_
    refine cx_after (cx_rV (n := 5) (As := [.int (xs (nI i + (1 : Int32)).toNatClampNeg), .int (xs (nI i + (2 : Int32)).toNatClampNeg), .int (xs (nI i + (3 : Int32)).toNatClampNeg), .int (xs (nI i + (4 : Int32)).toNatClampNeg), .int (xs (nI i + (5 : Int32)).toNatClampNeg)]) (rest := []) ⟨hx, hb, hml, hown, hg⟩ hM (cx_gv gm_L_106 gi_M_test gs_M_test gn_M gc_M_test) (by decide +kernel) ⟨by decide, by decide⟩ hK hw hv rfl rfl hl.1 rfl (Nat.le_of_ble_eq_true rfl) dd_L_law_375 ⟨Nat.le_trans (by dsimp only; omega) hcs.1, Nat.le_trans (by dsimp only; omega) hcs.2⟩) hw (fun v9 P3 H locs hp hw => ?_)
    obtain ⟨⟨b9, rfl⟩, hI⟩ := hE _ _ hp
    refine W.eq (g2 := F0 m 378 ls [.int b9]) rfl ?_
    refine lv_istore (lv' := [(6, .int b9), (5, .int (1 : Int32)), (0, .ref b), (1, .ref h0), (2, .ref hm), (3, .ref ao), (4, .int (nI i))]) hx hb dd_L_law_378 hl (by decide) rfl (fun ls hl => ?_)
    refine lv_aload_n hx hb dd_L_law_380 rfl (lv_at hl 4 rfl) ?_
    obtain ⟨vs9, hv9, hM9⟩ := iv_thr (l := l) (z := z) (D := D) (sa := sa) hI
    refine cx_after (cx_rV (n := 0) (As := []) (rest := []) ⟨hx, hb, hml, hown, hg⟩ hM9 (cx_gv gm_L_90 gi_M_thrown gs_M_thrown gn_M gc_M_thrown) (by decide +kernel) ⟨by decide, by decide⟩ hK hw hv9 rfl rfl hl.1 rfl (Nat.le_of_ble_eq_true rfl) dd_L_law_381 ⟨Nat.le_trans (by dsimp only; omega) hcs.1, Nat.le_trans (by dsimp only; omega) hcs.2⟩) hw (fun v9 P9 H locs hp hw => ?_)
    obtain ⟨rfl, e9⟩ := hp
    rw [e9] at hw
    clear e9 P9
    refine W.eq (g2 := F0 m 384 ls [.int (1 : Int32)]) rfl ?_
    refine lv_iload hx hb dd_L_law_384 (lv_at hl 1 rfl) ?_
    refine lv_icmp_eq (tgt := 391) hx hb dd_L_law_386 (by decide) (fun c4 => ?_) (fun c4 => absurd (by decide) c4)
    refine lv_iload hx hb dd_L_law_391 (lv_at hl 1 rfl) ?_
    refine lv_if_ne (tgt := 408) hx hb dd_L_law_393 (by decide) (fun c5 => ?_) (fun c5 => absurd c5 (by decide))
    refine lv_goto (tgt := 1454) hx hb dd_L_law_408 (by decide) ?_
    refine W.widen (k := cells + 16) (n := slots + 64) (by dsimp only; omega) (by dsimp only; omega) ?_
    exact kk P3 1 H _ ls hI hw (lv_sub hl [2, 3, 4, 5, 6] rfl)
  · skip
    obtain ⟨cd, hcd, vs, mp, hv, hM, hE⟩ := hF _ _ hp
    have hcd : cd = 2 := by
      rcases hcd with ⟨q, h⟩ | ⟨q, h⟩ | ⟨q, h⟩ | ⟨q, h⟩ <;> first | exact h | exact absurd q (by decide +kernel)
    subst hcd
    refine W.eq (g2 := F0 m 342 ls [.int (2 : Int32)]) rfl ?_
    refine lv_istore (lv' := [(5, .int (2 : Int32)), (0, .ref b), (1, .ref h0), (2, .ref hm), (3, .ref ao), (4, .int (nI i))]) hx hb dd_L_law_342 hl (by decide) rfl (fun ls hl => ?_)
    refine lv_aload_n hx hb dd_L_law_344 rfl (lv_at hl 3 rfl) ?_
    refine lv_aload_n hx hb dd_L_law_345 rfl (lv_at hl 1 rfl) ?_
    refine lv_iload hx hb dd_L_law_346 (lv_at hl 5 rfl) ?_
    refine lv_iconst (v := 1) hx hb dd_L_law_348 (by decide) ?_
    refine lv_iadd hx hb dd_L_law_349 ?_
    refine va_sld hx hb hX hbl hbA hw.2.2 hv1 dd_L_law_350 ?_
    refine lv_aload_n hx hb dd_L_law_351 rfl (lv_at hl 1 rfl) ?_
    refine lv_iload hx hb dd_L_law_352 (lv_at hl 5 rfl) ?_
    refine lv_iconst (v := 2) hx hb dd_L_law_354 (by decide) ?_
    refine lv_iadd hx hb dd_L_law_355 ?_
    refine va_sld hx hb hX hbl hbA hw.2.2 hv2 dd_L_law_356 ?_
    refine lv_aload_n hx hb dd_L_law_357 rfl (lv_at hl 1 rfl) ?_
    refine lv_iload hx hb dd_L_law_358 (lv_at hl 5 rfl) ?_
    refine lv_iconst (v := 3) hx hb dd_L_law_360 (by decide) ?_
    refine lv_iadd hx hb dd_L_law_361 ?_
    refine va_sld hx hb hX hbl hbA hw.2.2 hv3 dd_L_law_362 ?_
    refine lv_aload_n hx hb dd_L_law_363 rfl (lv_at hl 1 rfl) ?_
    refine lv_iload hx hb dd_L_law_364 (lv_at hl 5 rfl) ?_
    refine lv_iconst (v := 4) hx hb dd_L_law_366 (by decide) ?_
    refine lv_iadd hx hb dd_L_law_367 ?_
    refine va_sld hx hb hX hbl hbA hw.2.2 hv4 dd_L_law_368 ?_
    refine lv_aload_n hx hb dd_L_law_369 rfl (lv_at hl 1 rfl) ?_
    refine lv_iload hx hb dd_L_law_370 (lv_at hl 5 rfl) ?_
    refine lv_iconst (v := 5) hx hb dd_L_law_372 (by decide) ?_
    refine lv_iadd hx hb dd_L_law_373 ?_
    refine va_sld hx hb hX hbl hbA hw.2.2 hv5 dd_L_law_374 ?_
    refine cx_after (cx_rV (n := 5) (As := [.int (xs (nI i + (1 : Int32)).toNatClampNeg), .int (xs (nI i + (2 : Int32)).toNatClampNeg), .int (xs (nI i + (3 : Int32)).toNatClampNeg), .int (xs (nI i + (4 : Int32)).toNatClampNeg), .int (xs (nI i + (5 : Int32)).toNatClampNeg)]) (rest := []) ⟨hx, hb, hml, hown, hg⟩ hM (cx_gv gm_L_106 gi_M_test gs_M_test gn_M gc_M_test) (by decide +kernel) ⟨by decide, by decide⟩ hK hw hv rfl rfl hl.1 rfl (Nat.le_of_ble_eq_true rfl) dd_L_law_375 ⟨Nat.le_trans (by dsimp only; omega) hcs.1, Nat.le_trans (by dsimp only; omega) hcs.2⟩) hw (fun v9 P3 H locs hp hw => ?_)
    obtain ⟨⟨b9, rfl⟩, hI⟩ := hE _ _ hp
    refine W.eq (g2 := F0 m 378 ls [.int b9]) rfl ?_
    refine lv_istore (lv' := [(6, .int b9), (5, .int (2 : Int32)), (0, .ref b), (1, .ref h0), (2, .ref hm), (3, .ref ao), (4, .int (nI i))]) hx hb dd_L_law_378 hl (by decide) rfl (fun ls hl => ?_)
    refine lv_aload_n hx hb dd_L_law_380 rfl (lv_at hl 4 rfl) ?_
    obtain ⟨vs9, hv9, hM9⟩ := iv_thr (l := l) (z := z) (D := D) (sa := sa) hI
    refine cx_after (cx_rV (n := 0) (As := []) (rest := []) ⟨hx, hb, hml, hown, hg⟩ hM9 (cx_gv gm_L_90 gi_M_thrown gs_M_thrown gn_M gc_M_thrown) (by decide +kernel) ⟨by decide, by decide⟩ hK hw hv9 rfl rfl hl.1 rfl (Nat.le_of_ble_eq_true rfl) dd_L_law_381 ⟨Nat.le_trans (by dsimp only; omega) hcs.1, Nat.le_trans (by dsimp only; omega) hcs.2⟩) hw (fun v9 P9 H locs hp hw => ?_)
    obtain ⟨rfl, e9⟩ := hp
    rw [e9] at hw
    clear e9 P9
    refine W.eq (g2 := F0 m 384 ls [.int (2 : Int32)]) rfl ?_
    refine lv_iload hx hb dd_L_law_384 (lv_at hl 1 rfl) ?_
    refine lv_icmp_eq (tgt := 391) hx hb dd_L_law_386 (by decide) (fun c6 => ?_) (fun c6 => absurd (by decide) c6)
    refine lv_iload hx hb dd_L_law_391 (lv_at hl 1 rfl) ?_
    refine lv_if_ne (tgt := 408) hx hb dd_L_law_393 (by decide) (fun c7 => ?_) (fun c7 => absurd c7 (by decide))
    refine lv_goto (tgt := 1454) hx hb dd_L_law_408 (by decide) ?_
    refine W.widen (k := cells + 16) (n := slots + 64) (by dsimp only; omega) (by dsimp only; omega) ?_
    exact kk P3 2 H _ ls hI hw (lv_sub hl [2, 3, 4, 5, 6] rfl)
  · skip
    obtain ⟨cd, hcd, vs, mp, hv, hM, hE⟩ := hF _ _ hp
    have hcd : cd = 3 := by
      rcases hcd with ⟨q, h⟩ | ⟨q, h⟩ | ⟨q, h⟩ | ⟨q, h⟩ <;> first | exact h | exact absurd q (by decide +kernel)
    subst hcd
    refine W.eq (g2 := F0 m 342 ls [.int (3 : Int32)]) rfl ?_
    refine lv_istore (lv' := [(5, .int (3 : Int32)), (0, .ref b), (1, .ref h0), (2, .ref hm), (3, .ref ao), (4, .int (nI i))]) hx hb dd_L_law_342 hl (by decide) rfl (fun ls hl => ?_)
    refine lv_aload_n hx hb dd_L_law_344 rfl (lv_at hl 3 rfl) ?_
    refine lv_aload_n hx hb dd_L_law_345 rfl (lv_at hl 1 rfl) ?_
    refine lv_iload hx hb dd_L_law_346 (lv_at hl 5 rfl) ?_
    refine lv_iconst (v := 1) hx hb dd_L_law_348 (by decide) ?_
    refine lv_iadd hx hb dd_L_law_349 ?_
    refine va_sld hx hb hX hbl hbA hw.2.2 hv1 dd_L_law_350 ?_
    refine lv_aload_n hx hb dd_L_law_351 rfl (lv_at hl 1 rfl) ?_
    refine lv_iload hx hb dd_L_law_352 (lv_at hl 5 rfl) ?_
    refine lv_iconst (v := 2) hx hb dd_L_law_354 (by decide) ?_
    refine lv_iadd hx hb dd_L_law_355 ?_
    refine va_sld hx hb hX hbl hbA hw.2.2 hv2 dd_L_law_356 ?_
    refine lv_aload_n hx hb dd_L_law_357 rfl (lv_at hl 1 rfl) ?_
    refine lv_iload hx hb dd_L_law_358 (lv_at hl 5 rfl) ?_
    refine lv_iconst (v := 3) hx hb dd_L_law_360 (by decide) ?_
    refine lv_iadd hx hb dd_L_law_361 ?_
    refine va_sld hx hb hX hbl hbA hw.2.2 hv3 dd_L_law_362 ?_
    refine lv_aload_n hx hb dd_L_law_363 rfl (lv_at hl 1 rfl) ?_
    refine lv_iload hx hb dd_L_law_364 (lv_at hl 5 rfl) ?_
    refine lv_iconst (v := 4) hx hb dd_L_law_366 (by decide) ?_
    refine lv_iadd hx hb dd_L_law_367 ?_
    refine va_sld hx hb hX hbl hbA hw.2.2 hv4 dd_L_law_368 ?_
    refine lv_aload_n hx hb dd_L_law_369 rfl (lv_at hl 1 rfl) ?_
    refine lv_iload hx hb dd_L_law_370 (lv_at hl 5 rfl) ?_
    refine lv_iconst (v := 5) hx hb dd_L_law_372 (by decide) ?_
    refine lv_iadd hx hb dd_L_law_373 ?_
    refine va_sld hx hb hX hbl hbA hw.2.2 hv5 dd_L_law_374 ?_
    refine cx_after (cx_rV (n := 5) (As := [.int (xs (nI i + (1 : Int32)).toNatClampNeg), .int (xs (nI i + (2 : Int32)).toNatClampNeg), .int (xs (nI i + (3 : Int32)).toNatClampNeg), .int (xs (nI i + (4 : Int32)).toNatClampNeg), .int (xs (nI i + (5 : Int32)).toNatClampNeg)]) (rest := []) ⟨hx, hb, hml, hown, hg⟩ hM (cx_gv gm_L_106 gi_M_test gs_M_test gn_M gc_M_test) (by decide +kernel) ⟨by decide, by decide⟩ hK hw hv rfl rfl hl.1 rfl (Nat.le_of_ble_eq_true rfl) dd_L_law_375 ⟨Nat.le_trans (by dsimp only; omega) hcs.1, Nat.le_trans (by dsimp only; omega) hcs.2⟩) hw (fun v9 P3 H locs hp hw => ?_)
    obtain ⟨⟨b9, rfl⟩, hI⟩ := hE _ _ hp
    refine W.eq (g2 := F0 m 378 ls [.int b9]) rfl ?_
    refine lv_istore (lv' := [(6, .int b9), (5, .int (3 : Int32)), (0, .ref b), (1, .ref h0), (2, .ref hm), (3, .ref ao), (4, .int (nI i))]) hx hb dd_L_law_378 hl (by decide) rfl (fun ls hl => ?_)
    refine lv_aload_n hx hb dd_L_law_380 rfl (lv_at hl 4 rfl) ?_
    obtain ⟨vs9, hv9, hM9⟩ := iv_thr (l := l) (z := z) (D := D) (sa := sa) hI
    refine cx_after (cx_rV (n := 0) (As := []) (rest := []) ⟨hx, hb, hml, hown, hg⟩ hM9 (cx_gv gm_L_90 gi_M_thrown gs_M_thrown gn_M gc_M_thrown) (by decide +kernel) ⟨by decide, by decide⟩ hK hw hv9 rfl rfl hl.1 rfl (Nat.le_of_ble_eq_true rfl) dd_L_law_381 ⟨Nat.le_trans (by dsimp only; omega) hcs.1, Nat.le_trans (by dsimp only; omega) hcs.2⟩) hw (fun v9 P9 H locs hp hw => ?_)
    obtain ⟨rfl, e9⟩ := hp
    rw [e9] at hw
    clear e9 P9
    refine W.eq (g2 := F0 m 384 ls [.int (3 : Int32)]) rfl ?_
    refine lv_iload hx hb dd_L_law_384 (lv_at hl 1 rfl) ?_
    refine lv_icmp_eq (tgt := 391) hx hb dd_L_law_386 (by decide) (fun c8 => ?_) (fun c8 => absurd (by decide) c8)
    refine lv_iload hx hb dd_L_law_391 (lv_at hl 1 rfl) ?_
    refine lv_if_ne (tgt := 408) hx hb dd_L_law_393 (by decide) (fun c9 => ?_) (fun c9 => absurd c9 (by decide))
    refine lv_goto (tgt := 1454) hx hb dd_L_law_408 (by decide) ?_
    refine W.widen (k := cells + 16) (n := slots + 64) (by dsimp only; omega) (by dsimp only; omega) ?_
    exact kk P3 3 H _ ls hI hw (lv_sub hl [2, 3, 4, 5, 6] rfl)
  · skip
    obtain ⟨cd, hcd, vs, mp, hv, hM, hE⟩ := hF _ _ hp
    have hcd : cd = 4 := by
      rcases hcd with ⟨q, h⟩ | ⟨q, h⟩ | ⟨q, h⟩ | ⟨q, h⟩ <;> first | exact h | exact absurd q (by decide +kernel)
    subst hcd
    refine W.eq (g2 := F0 m 342 ls [.int (4 : Int32)]) rfl ?_
    refine lv_istore (lv' := [(5, .int (4 : Int32)), (0, .ref b), (1, .ref h0), (2, .ref hm), (3, .ref ao), (4, .int (nI i))]) hx hb dd_L_law_342 hl (by decide) rfl (fun ls hl => ?_)
    refine lv_aload_n hx hb dd_L_law_344 rfl (lv_at hl 3 rfl) ?_
    refine lv_aload_n hx hb dd_L_law_345 rfl (lv_at hl 1 rfl) ?_
    refine lv_iload hx hb dd_L_law_346 (lv_at hl 5 rfl) ?_
    refine lv_iconst (v := 1) hx hb dd_L_law_348 (by decide) ?_
    refine lv_iadd hx hb dd_L_law_349 ?_
    refine va_sld hx hb hX hbl hbA hw.2.2 hv1 dd_L_law_350 ?_
    refine lv_aload_n hx hb dd_L_law_351 rfl (lv_at hl 1 rfl) ?_
    refine lv_iload hx hb dd_L_law_352 (lv_at hl 5 rfl) ?_
    refine lv_iconst (v := 2) hx hb dd_L_law_354 (by decide) ?_
    refine lv_iadd hx hb dd_L_law_355 ?_
    refine va_sld hx hb hX hbl hbA hw.2.2 hv2 dd_L_law_356 ?_
    refine lv_aload_n hx hb dd_L_law_357 rfl (lv_at hl 1 rfl) ?_
    refine lv_iload hx hb dd_L_law_358 (lv_at hl 5 rfl) ?_
    refine lv_iconst (v := 3) hx hb dd_L_law_360 (by decide) ?_
    refine lv_iadd hx hb dd_L_law_361 ?_
    refine va_sld hx hb hX hbl hbA hw.2.2 hv3 dd_L_law_362 ?_
    refine lv_aload_n hx hb dd_L_law_363 rfl (lv_at hl 1 rfl) ?_
    refine lv_iload hx hb dd_L_law_364 (lv_at hl 5 rfl) ?_
    refine lv_iconst (v := 4) hx hb dd_L_law_366 (by decide) ?_
    refine lv_iadd hx hb dd_L_law_367 ?_
    refine va_sld hx hb hX hbl hbA hw.2.2 hv4 dd_L_law_368 ?_
    refine lv_aload_n hx hb dd_L_law_369 rfl (lv_at hl 1 rfl) ?_
    refine lv_iload hx hb dd_L_law_370 (lv_at hl 5 rfl) ?_
    refine lv_iconst (v := 5) hx hb dd_L_law_372 (by decide) ?_
    refine lv_iadd hx hb dd_L_law_373 ?_
    refine va_sld hx hb hX hbl hbA hw.2.2 hv5 dd_L_law_374 ?_
    refine cx_after (cx_rV (n := 5) (As := [.int (xs (nI i + (1 : Int32)).toNatClampNeg), .int (xs (nI i + (2 : Int32)).toNatClampNeg), .int (xs (nI i + (3 : Int32)).toNatClampNeg), .int (xs (nI i + (4 : Int32)).toNatClampNeg), .int (xs (nI i + (5 : Int32)).toNatClampNeg)]) (rest := []) ⟨hx, hb, hml, hown, hg⟩ hM (cx_gv gm_L_106 gi_M_test gs_M_test gn_M gc_M_test) (by decide +kernel) ⟨by decide, by decide⟩ hK hw hv rfl rfl hl.1 rfl (Nat.le_of_ble_eq_true rfl) dd_L_law_375 ⟨Nat.le_trans (by dsimp only; omega) hcs.1, Nat.le_trans (by dsimp only; omega) hcs.2⟩) hw (fun v9 P3 H locs hp hw => ?_)
    obtain ⟨⟨b9, rfl⟩, hI⟩ := hE _ _ hp
    refine W.eq (g2 := F0 m 378 ls [.int b9]) rfl ?_
    refine lv_istore (lv' := [(6, .int b9), (5, .int (4 : Int32)), (0, .ref b), (1, .ref h0), (2, .ref hm), (3, .ref ao), (4, .int (nI i))]) hx hb dd_L_law_378 hl (by decide) rfl (fun ls hl => ?_)
    refine lv_aload_n hx hb dd_L_law_380 rfl (lv_at hl 4 rfl) ?_
    obtain ⟨vs9, hv9, hM9⟩ := iv_thr (l := l) (z := z) (D := D) (sa := sa) hI
    refine cx_after (cx_rV (n := 0) (As := []) (rest := []) ⟨hx, hb, hml, hown, hg⟩ hM9 (cx_gv gm_L_90 gi_M_thrown gs_M_thrown gn_M gc_M_thrown) (by decide +kernel) ⟨by decide, by decide⟩ hK hw hv9 rfl rfl hl.1 rfl (Nat.le_of_ble_eq_true rfl) dd_L_law_381 ⟨Nat.le_trans (by dsimp only; omega) hcs.1, Nat.le_trans (by dsimp only; omega) hcs.2⟩) hw (fun v9 P9 H locs hp hw => ?_)
    obtain ⟨rfl, e9⟩ := hp
    rw [e9] at hw
    clear e9 P9
    refine W.eq (g2 := F0 m 384 ls [.int (4 : Int32)]) rfl ?_
    refine lv_iload hx hb dd_L_law_384 (lv_at hl 1 rfl) ?_
    refine lv_icmp_eq (tgt := 391) hx hb dd_L_law_386 (by decide) (fun c10 => ?_) (fun c10 => absurd (by decide) c10)
    refine lv_iload hx hb dd_L_law_391 (lv_at hl 1 rfl) ?_
    refine lv_if_ne (tgt := 408) hx hb dd_L_law_393 (by decide) (fun c11 => ?_) (fun c11 => absurd c11 (by decide))
    refine lv_goto (tgt := 1454) hx hb dd_L_law_408 (by decide) ?_
    refine W.widen (k := cells + 16) (n := slots + 64) (by dsimp only; omega) (by dsimp only; omega) ?_
    exact kk P3 4 H _ ls hI hw (lv_sub hl [2, 3, 4, 5, 6] rfl)

set_option maxHeartbeats 4000000 in
set_option maxRecDepth 100000 in
theorem lw_c4 {p : Program} {l : Launch} {e : Env} {s : State} {m : MethodId} {below : List Frame} {meth : Method} {c : Code} {b L : Nat} {xs : Nat → Int32} {z : Nat} {D : va_G} {ac : Nat → ClassId} {sa : Nat → Nat} {Q : State → Prop} (hT : l.stackTraces = false) (hL : L ≤ 3072) (C0 : lw_B p s m c b L xs z D ac sa) {i : Nat} (hi : i + 6 ≤ L) {h0 hm ao : Nat} {P : pm_T} {th : Int32} {H : Heap} {locs : List Loc} {ls : Array Slot} {cells slots : Nat} (hcs : cells + 16 ≤ room_1.cells ∧ slots + 64 ≤ room_1.slots) (hI : iv_I P ac h0 hm ao th) (hw : pm_W z D cl_w P s.heap H locs) (hl : lv_has ls 7 [(0, .ref b), (1, .ref h0), (2, .ref hm), (3, .ref ao), (4, .int (nI i))]) (kk : ∀ (P : pm_T) (th : Int32) (H : Heap) (locs : List Loc) (ls : Array Slot), iv_I P ac h0 hm ao th → pm_W z D cl_w P s.heap H locs → lv_has ls 7 [(0, .ref b), (1, .ref h0), (2, .ref hm), (3, .ref ao), (4, .int (nI i))] → W p l e room_1 s m #[Value.ref b] below meth c H locs (cells + 16) (slots + 64) Q (F0 m 1454 ls [])) : W p l e room_1 s m #[Value.ref b] below meth c H locs cells slots Q (F0 m 411 ls []) := by
  obtain ⟨hx, hb, hml, hown, hg, hX, hbl, hbA, hK⟩ := C0
  have hv1 : vp_in (nI i + (1 : Int32)) L := lw_in (k := 1) rfl hL (by omega)
  have hv2 : vp_in (nI i + (2 : Int32)) L := lw_in (k := 2) rfl hL (by omega)
  have hv3 : vp_in (nI i + (3 : Int32)) L := lw_in (k := 3) rfl hL (by omega)
  have hv4 : vp_in (nI i + (4 : Int32)) L := lw_in (k := 4) rfl hL (by omega)
  have hv5 : vp_in (nI i + (5 : Int32)) L := lw_in (k := 5) rfl hL (by omega)
  refine lv_aload_n hx hb dd_L_law_411 rfl (lv_at hl 1 rfl) ?_
  refine lv_aload_n hx hb dd_L_law_412 rfl (lv_at hl 0 rfl) ?_
  refine lv_iload hx hb dd_L_law_413 (lv_at hl 4 rfl) ?_
  refine lv_iconst (v := 1) hx hb dd_L_law_415 (by decide) ?_
  refine lv_iadd hx hb dd_L_law_416 ?_
  refine va_sld hx hb hX hbl hbA hw.2.2 hv1 dd_L_law_417 ?_
  refine lv_aload_n hx hb dd_L_law_418 rfl (lv_at hl 0 rfl) ?_
  refine lv_iload hx hb dd_L_law_419 (lv_at hl 4 rfl) ?_
  refine lv_iconst (v := 2) hx hb dd_L_law_421 (by decide) ?_
  refine lv_iadd hx hb dd_L_law_422 ?_
  refine va_sld hx hb hX hbl hbA hw.2.2 hv2 dd_L_law_423 ?_
  refine lv_aload_n hx hb dd_L_law_424 rfl (lv_at hl 0 rfl) ?_
  refine lv_iload hx hb dd_L_law_425 (lv_at hl 4 rfl) ?_
  refine lv_iconst (v := 3) hx hb dd_L_law_427 (by decide) ?_
  refine lv_iadd hx hb dd_L_law_428 ?_
  refine va_sld hx hb hX hbl hbA hw.2.2 hv3 dd_L_law_429 ?_
  refine lv_aload_n hx hb dd_L_law_430 rfl (lv_at hl 3 rfl) ?_
  obtain ⟨fs, post, xp, f0, hC, hS, hF⟩ := st_flow l hT z D ac sa P h0 hm ao th (xs (nI i + (1 : Int32)).toNatClampNeg) (xs (nI i + (2 : Int32)).toNatClampNeg) (xs (nI i + (3 : Int32)).toNatClampNeg) hI
  refine cx_afterX (cx_rSH (n := 5) (As := [.ref h0, .int (xs (nI i + (1 : Int32)).toNatClampNeg), .int (xs (nI i + (2 : Int32)).toNatClampNeg), .int (xs (nI i + (3 : Int32)).toNatClampNeg), .ref ao]) (rest := []) ⟨hx, hb, hml, hown, hg⟩ (w_flow l z D ac sa P h0 ao fs (xs (nI i + (1 : Int32)).toNatClampNeg) (xs (nI i + (2 : Int32)).toNatClampNeg) (xs (nI i + (3 : Int32)).toNatClampNeg) post xp hC (fun v P1 h => (hS v P1 h).elim (fun r h => h.elim (fun fo h => ⟨r, fo, h.1, h.2.1⟩))) (fun E P1 h => (hF E P1 h).elim (fun cd h => h.1.imp And.left (Or.imp And.left (Or.imp And.left And.left)))) f0) gch_L_flow gm_L_107 gt_L_flow gn_L (by decide +kernel) ⟨by decide, by decide⟩ hK hw rfl hl.1 rfl (Nat.le_of_ble_eq_true rfl) dd_L_law_431 ⟨Nat.le_trans (by dsimp only; omega) hcs.1, Nat.le_trans (by dsimp only; omega) hcs.2⟩) hw (fun E9 ce9 q9 P9 H locs hp hw hce hcv hcl => hp.elim) (fun v9 P9 H locs hp hw => ?_)
  rcases hp with ⟨r, P1, fo, hp, fo9, rfl, e9⟩ | ⟨hp, rfl⟩ | ⟨hp, rfl⟩ | ⟨hp, rfl⟩ | ⟨hp, rfl⟩
  · skip
    rw [e9] at hw
    clear e9 P9
    obtain ⟨r1, fo1, e1, -, hN⟩ := hS _ _ hp
    have e1 : r = r1 := Value.int.inj (Option.some.inj e1)
    subst e1
    obtain ⟨vs, mp, hv, hM, hE⟩ := hN (vp_updL fo 0 r.toInt64)
    refine W.eq (g2 := F0 m 434 ls [.int (0 : Int32)]) rfl ?_
    refine lv_istore (lv' := [(5, .int (0 : Int32)), (0, .ref b), (1, .ref h0), (2, .ref hm), (3, .ref ao), (4, .int (nI i))]) hx hb dd_L_law_434 hl (by decide) rfl (fun ls hl => ?_)
    refine lv_aload_n hx hb dd_L_law_436 rfl (lv_at hl 3 rfl) ?_
    refine lv_aload_n hx hb dd_L_law_437 rfl (lv_at hl 1 rfl) ?_
    refine lv_iload hx hb dd_L_law_438 (lv_at hl 5 rfl) ?_
    refine lv_iconst (v := 1) hx hb dd_L_law_440 (by decide) ?_
    refine lv_iadd hx hb dd_L_law_441 ?_
    refine va_sld hx hb hX hbl hbA hw.2.2 hv1 dd_L_law_442 ?_
    refine lv_aload_n hx hb dd_L_law_443 rfl (lv_at hl 1 rfl) ?_
    refine lv_iload hx hb dd_L_law_444 (lv_at hl 5 rfl) ?_
    refine lv_iconst (v := 2) hx hb dd_L_law_446 (by decide) ?_
    refine lv_iadd hx hb dd_L_law_447 ?_
    refine va_sld hx hb hX hbl hbA hw.2.2 hv2 dd_L_law_448 ?_
    refine lv_aload_n hx hb dd_L_law_449 rfl (lv_at hl 1 rfl) ?_
    refine lv_iload hx hb dd_L_law_450 (lv_at hl 5 rfl) ?_
    refine lv_iconst (v := 3) hx hb dd_L_law_452 (by decide) ?_
    refine lv_iadd hx hb dd_L_law_453 ?_
    refine va_sld hx hb hX hbl hbA hw.2.2 hv3 dd_L_law_454 ?_
    refine cx_after (cx_rV (n := 3) (As := [.int (xs (nI i + (1 : Int32)).toNatClampNeg), .int (xs (nI i + (2 : Int32)).toNatClampNeg), .int (xs (nI i + (3 : Int32)).toNatClampNeg)]) (rest := []) ⟨hx, hb, hml, hown, hg⟩ hM (cx_gv gm_L_110 gi_M_flow gs_M_flow gn_M gc_M_flow) (by decide +kernel) ⟨by decide, by decide⟩ hK hw hv rfl rfl hl.1 rfl (Nat.le_of_ble_eq_true rfl) dd_L_law_455 ⟨Nat.le_trans (by dsimp only; omega) hcs.1, Nat.le_trans (by dsimp only; omega) hcs.2⟩) hw (fun v9 P3 H locs hp hw => ?_)
    obtain ⟨rfl, hI, hao⟩ := hE _ _ hp
    refine W.eq (g2 := F0 m 458 ls [.int r]) rfl ?_
    refine lv_istore (lv' := [(6, .int r), (5, .int (0 : Int32)), (0, .ref b), (1, .ref h0), (2, .ref hm), (3, .ref ao), (4, .int (nI i))]) hx hb dd_L_law_458 hl (by decide) rfl (fun ls hl => ?_)
    refine lv_aload_n hx hb dd_L_law_460 rfl (lv_at hl 4 rfl) ?_
    obtain ⟨vs9, hv9, hM9⟩ := iv_thr (l := l) (z := z) (D := D) (sa := sa) hI
    refine cx_after (cx_rV (n := 0) (As := []) (rest := []) ⟨hx, hb, hml, hown, hg⟩ hM9 (cx_gv gm_L_90 gi_M_thrown gs_M_thrown gn_M gc_M_thrown) (by decide +kernel) ⟨by decide, by decide⟩ hK hw hv9 rfl rfl hl.1 rfl (Nat.le_of_ble_eq_true rfl) dd_L_law_461 ⟨Nat.le_trans (by dsimp only; omega) hcs.1, Nat.le_trans (by dsimp only; omega) hcs.2⟩) hw (fun v9 P9 H locs hp hw => ?_)
    obtain ⟨rfl, e9⟩ := hp
    rw [e9] at hw
    clear e9 P9
    refine W.eq (g2 := F0 m 464 ls [.int (0 : Int32)]) rfl ?_
    refine lv_iload hx hb dd_L_law_464 (lv_at hl 1 rfl) ?_
    refine lv_icmp_eq (tgt := 471) hx hb dd_L_law_466 (by decide) (fun c1 => ?_) (fun c1 => absurd (by decide) c1)
    refine lv_iload hx hb dd_L_law_471 (lv_at hl 1 rfl) ?_
    refine lv_if_ne (tgt := 488) hx hb dd_L_law_473 (by decide) (fun c2 => absurd (by decide) c2) (fun c2 => ?_)
    refine lv_aload_n hx hb dd_L_law_476 rfl (lv_at hl 5 rfl) ?_
    refine lv_iconst (v := 0) hx hb dd_L_law_477 (by decide) ?_
    refine pm_lald hx hb hK.2.1 hw 1 hao rfl (show vp_in (0 : Int32) 1 from vp_in_nI (n := 0) (by decide) (by decide)) dd_L_law_478 ?_
    refine lv_iload hx hb dd_L_law_479 (lv_at hl 0 rfl) ?_
    refine lv_i2l hx hb dd_L_law_481 rfl ?_
    refine W.lcmp hx hb dd_L_law_482 ?_
    refine lv_if_eq (tgt := 488) hx hb dd_L_law_483 (by decide) (fun c3 => ?_) (fun c3 => absurd (lw_cmp rfl) c3)
    refine lv_goto (tgt := 1454) hx hb dd_L_law_488 (by decide) ?_
    refine W.widen (k := cells + 16) (n := slots + 64) (by dsimp only; omega) (by dsimp only; omega) ?_
    exact kk P3 0 H _ ls hI hw (lv_sub hl [2, 3, 4, 5, 6] rfl)
  · skip
    obtain ⟨cd, hcd, vs, mp, hv, hM, hE⟩ := hF _ _ hp
    have hcd : cd = 1 := by
      rcases hcd with ⟨q, h⟩ | ⟨q, h⟩ | ⟨q, h⟩ | ⟨q, h⟩ <;> first | exact h | exact absurd q (by decide +kernel)
    subst hcd
    refine W.eq (g2 := F0 m 434 ls [.int (1 : Int32)]) rfl ?_
    refine lv_istore (lv' := [(5, .int (1 : Int32)), (0, .ref b), (1, .ref h0), (2, .ref hm), (3, .ref ao), (4, .int (nI i))]) hx hb dd_L_law_434 hl (by decide) rfl (fun ls hl => ?_)
    refine lv_aload_n hx hb dd_L_law_436 rfl (lv_at hl 3 rfl) ?_
    refine lv_aload_n hx hb dd_L_law_437 rfl (lv_at hl 1 rfl) ?_
    refine lv_iload hx hb dd_L_law_438 (lv_at hl 5 rfl) ?_
    refine lv_iconst (v := 1) hx hb dd_L_law_440 (by decide) ?_
    refine lv_iadd hx hb dd_L_law_441 ?_
    refine va_sld hx hb hX hbl hbA hw.2.2 hv1 dd_L_law_442 ?_
    refine lv_aload_n hx hb dd_L_law_443 rfl (lv_at hl 1 rfl) ?_
    refine lv_iload hx hb dd_L_law_444 (lv_at hl 5 rfl) ?_
    refine lv_iconst (v := 2) hx hb dd_L_law_446 (by decide) ?_
    refine lv_iadd hx hb dd_L_law_447 ?_
    refine va_sld hx hb hX hbl hbA hw.2.2 hv2 dd_L_law_448 ?_
    refine lv_aload_n hx hb dd_L_law_449 rfl (lv_at hl 1 rfl) ?_
    refine lv_iload hx hb dd_L_law_450 (lv_at hl 5 rfl) ?_
    refine lv_iconst (v := 3) hx hb dd_L_law_452 (by decide) ?_
    refine lv_iadd hx hb dd_L_law_453 ?_
    refine va_sld hx hb hX hbl hbA hw.2.2 hv3 dd_L_law_454 ?_
    refine cx_after (cx_rV (n := 3) (As := [.int (xs (nI i + (1 : Int32)).toNatClampNeg), .int (xs (nI i + (2 : Int32)).toNatClampNeg), .int (xs (nI i + (3 : Int32)).toNatClampNeg)]) (rest := []) ⟨hx, hb, hml, hown, hg⟩ hM (cx_gv gm_L_110 gi_M_flow gs_M_flow gn_M gc_M_flow) (by decide +kernel) ⟨by decide, by decide⟩ hK hw hv rfl rfl hl.1 rfl (Nat.le_of_ble_eq_true rfl) dd_L_law_455 ⟨Nat.le_trans (by dsimp only; omega) hcs.1, Nat.le_trans (by dsimp only; omega) hcs.2⟩) hw (fun v9 P3 H locs hp hw => ?_)
    obtain ⟨⟨b9, rfl⟩, hI⟩ := hE _ _ hp
    refine W.eq (g2 := F0 m 458 ls [.int b9]) rfl ?_
    refine lv_istore (lv' := [(6, .int b9), (5, .int (1 : Int32)), (0, .ref b), (1, .ref h0), (2, .ref hm), (3, .ref ao), (4, .int (nI i))]) hx hb dd_L_law_458 hl (by decide) rfl (fun ls hl => ?_)
    refine lv_aload_n hx hb dd_L_law_460 rfl (lv_at hl 4 rfl) ?_
    obtain ⟨vs9, hv9, hM9⟩ := iv_thr (l := l) (z := z) (D := D) (sa := sa) hI
    refine cx_after (cx_rV (n := 0) (As := []) (rest := []) ⟨hx, hb, hml, hown, hg⟩ hM9 (cx_gv gm_L_90 gi_M_thrown gs_M_thrown gn_M gc_M_thrown) (by decide +kernel) ⟨by decide, by decide⟩ hK hw hv9 rfl rfl hl.1 rfl (Nat.le_of_ble_eq_true rfl) dd_L_law_461 ⟨Nat.le_trans (by dsimp only; omega) hcs.1, Nat.le_trans (by dsimp only; omega) hcs.2⟩) hw (fun v9 P9 H locs hp hw => ?_)
    obtain ⟨rfl, e9⟩ := hp
    rw [e9] at hw
    clear e9 P9
    refine W.eq (g2 := F0 m 464 ls [.int (1 : Int32)]) rfl ?_
    refine lv_iload hx hb dd_L_law_464 (lv_at hl 1 rfl) ?_
    refine lv_icmp_eq (tgt := 471) hx hb dd_L_law_466 (by decide) (fun c4 => ?_) (fun c4 => absurd (by decide) c4)
    refine lv_iload hx hb dd_L_law_471 (lv_at hl 1 rfl) ?_
    refine lv_if_ne (tgt := 488) hx hb dd_L_law_473 (by decide) (fun c5 => ?_) (fun c5 => absurd c5 (by decide))
    refine lv_goto (tgt := 1454) hx hb dd_L_law_488 (by decide) ?_
    refine W.widen (k := cells + 16) (n := slots + 64) (by dsimp only; omega) (by dsimp only; omega) ?_
    exact kk P3 1 H _ ls hI hw (lv_sub hl [2, 3, 4, 5, 6] rfl)
  · skip
    obtain ⟨cd, hcd, vs, mp, hv, hM, hE⟩ := hF _ _ hp
    have hcd : cd = 2 := by
      rcases hcd with ⟨q, h⟩ | ⟨q, h⟩ | ⟨q, h⟩ | ⟨q, h⟩ <;> first | exact h | exact absurd q (by decide +kernel)
    subst hcd
    refine W.eq (g2 := F0 m 434 ls [.int (2 : Int32)]) rfl ?_
    refine lv_istore (lv' := [(5, .int (2 : Int32)), (0, .ref b), (1, .ref h0), (2, .ref hm), (3, .ref ao), (4, .int (nI i))]) hx hb dd_L_law_434 hl (by decide) rfl (fun ls hl => ?_)
    refine lv_aload_n hx hb dd_L_law_436 rfl (lv_at hl 3 rfl) ?_
    refine lv_aload_n hx hb dd_L_law_437 rfl (lv_at hl 1 rfl) ?_
    refine lv_iload hx hb dd_L_law_438 (lv_at hl 5 rfl) ?_
    refine lv_iconst (v := 1) hx hb dd_L_law_440 (by decide) ?_
    refine lv_iadd hx hb dd_L_law_441 ?_
    refine va_sld hx hb hX hbl hbA hw.2.2 hv1 dd_L_law_442 ?_
    refine lv_aload_n hx hb dd_L_law_443 rfl (lv_at hl 1 rfl) ?_
    refine lv_iload hx hb dd_L_law_444 (lv_at hl 5 rfl) ?_
    refine lv_iconst (v := 2) hx hb dd_L_law_446 (by decide) ?_
    refine lv_iadd hx hb dd_L_law_447 ?_
    refine va_sld hx hb hX hbl hbA hw.2.2 hv2 dd_L_law_448 ?_
    refine lv_aload_n hx hb dd_L_law_449 rfl (lv_at hl 1 rfl) ?_
    refine lv_iload hx hb dd_L_law_450 (lv_at hl 5 rfl) ?_
    refine lv_iconst (v := 3) hx hb dd_L_law_452 (by decide) ?_
    refine lv_iadd hx hb dd_L_law_453 ?_
    refine va_sld hx hb hX hbl hbA hw.2.2 hv3 dd_L_law_454 ?_
    refine cx_after (cx_rV (n := 3) (As := [.int (xs (nI i + (1 : Int32)).toNatClampNeg), .int (xs (nI i + (2 : Int32)).toNatClampNeg), .int (xs (nI i + (3 : Int32)).toNatClampNeg)]) (rest := []) ⟨hx, hb, hml, hown, hg⟩ hM (cx_gv gm_L_110 gi_M_flow gs_M_flow gn_M gc_M_flow) (by decide +kernel) ⟨by decide, by decide⟩ hK hw hv rfl rfl hl.1 rfl (Nat.le_of_ble_eq_true rfl) dd_L_law_455 ⟨Nat.le_trans (by dsimp only; omega) hcs.1, Nat.le_trans (by dsimp only; omega) hcs.2⟩) hw (fun v9 P3 H locs hp hw => ?_)
    obtain ⟨⟨b9, rfl⟩, hI⟩ := hE _ _ hp
    refine W.eq (g2 := F0 m 458 ls [.int b9]) rfl ?_
    refine lv_istore (lv' := [(6, .int b9), (5, .int (2 : Int32)), (0, .ref b), (1, .ref h0), (2, .ref hm), (3, .ref ao), (4, .int (nI i))]) hx hb dd_L_law_458 hl (by decide) rfl (fun ls hl => ?_)
    refine lv_aload_n hx hb dd_L_law_460 rfl (lv_at hl 4 rfl) ?_
    obtain ⟨vs9, hv9, hM9⟩ := iv_thr (l := l) (z := z) (D := D) (sa := sa) hI
    refine cx_after (cx_rV (n := 0) (As := []) (rest := []) ⟨hx, hb, hml, hown, hg⟩ hM9 (cx_gv gm_L_90 gi_M_thrown gs_M_thrown gn_M gc_M_thrown) (by decide +kernel) ⟨by decide, by decide⟩ hK hw hv9 rfl rfl hl.1 rfl (Nat.le_of_ble_eq_true rfl) dd_L_law_461 ⟨Nat.le_trans (by dsimp only; omega) hcs.1, Nat.le_trans (by dsimp only; omega) hcs.2⟩) hw (fun v9 P9 H locs hp hw => ?_)
    obtain ⟨rfl, e9⟩ := hp
    rw [e9] at hw
    clear e9 P9
    refine W.eq (g2 := F0 m 464 ls [.int (2 : Int32)]) rfl ?_
    refine lv_iload hx hb dd_L_law_464 (lv_at hl 1 rfl) ?_
    refine lv_icmp_eq (tgt := 471) hx hb dd_L_law_466 (by decide) (fun c6 => ?_) (fun c6 => absurd (by decide) c6)
    refine lv_iload hx hb dd_L_law_471 (lv_at hl 1 rfl) ?_
    refine lv_if_ne (tgt := 488) hx hb dd_L_law_473 (by decide) (fun c7 => ?_) (fun c7 => absurd c7 (by decide))
    refine lv_goto (tgt := 1454) hx hb dd_L_law_488 (by decide) ?_
    refine W.widen (k := cells + 16) (n := slots + 64) (by dsimp only; omega) (by dsimp only; omega) ?_
    exact kk P3 2 H _ ls hI hw (lv_sub hl [2, 3, 4, 5, 6] rfl)
  · skip
    obtain ⟨cd, hcd, vs, mp, hv, hM, hE⟩ := hF _ _ hp
    have hcd : cd = 3 := by
      rcases hcd with ⟨q, h⟩ | ⟨q, h⟩ | ⟨q, h⟩ | ⟨q, h⟩ <;> first | exact h | exact absurd q (by decide +kernel)
    subst hcd
    refine W.eq (g2 := F0 m 434 ls [.int (3 : Int32)]) rfl ?_
    refine lv_istore (lv' := [(5, .int (3 : Int32)), (0, .ref b), (1, .ref h0), (2, .ref hm), (3, .ref ao), (4, .int (nI i))]) hx hb dd_L_law_434 hl (by decide) rfl (fun ls hl => ?_)
    refine lv_aload_n hx hb dd_L_law_436 rfl (lv_at hl 3 rfl) ?_
    refine lv_aload_n hx hb dd_L_law_437 rfl (lv_at hl 1 rfl) ?_
    refine lv_iload hx hb dd_L_law_438 (lv_at hl 5 rfl) ?_
    refine lv_iconst (v := 1) hx hb dd_L_law_440 (by decide) ?_
    refine lv_iadd hx hb dd_L_law_441 ?_
    refine va_sld hx hb hX hbl hbA hw.2.2 hv1 dd_L_law_442 ?_
    refine lv_aload_n hx hb dd_L_law_443 rfl (lv_at hl 1 rfl) ?_
    refine lv_iload hx hb dd_L_law_444 (lv_at hl 5 rfl) ?_
    refine lv_iconst (v := 2) hx hb dd_L_law_446 (by decide) ?_
    refine lv_iadd hx hb dd_L_law_447 ?_
    refine va_sld hx hb hX hbl hbA hw.2.2 hv2 dd_L_law_448 ?_
    refine lv_aload_n hx hb dd_L_law_449 rfl (lv_at hl 1 rfl) ?_
    refine lv_iload hx hb dd_L_law_450 (lv_at hl 5 rfl) ?_
    refine lv_iconst (v := 3) hx hb dd_L_law_452 (by decide) ?_
    refine lv_iadd hx hb dd_L_law_453 ?_
    refine va_sld hx hb hX hbl hbA hw.2.2 hv3 dd_L_law_454 ?_
    refine cx_after (cx_rV (n := 3) (As := [.int (xs (nI i + (1 : Int32)).toNatClampNeg), .int (xs (nI i + (2 : Int32)).toNatClampNeg), .int (xs (nI i + (3 : Int32)).toNatClampNeg)]) (rest := []) ⟨hx, hb, hml, hown, hg⟩ hM (cx_gv gm_L_110 gi_M_flow gs_M_flow gn_M gc_M_flow) (by decide +kernel) ⟨by decide, by decide⟩ hK hw hv rfl rfl hl.1 rfl (Nat.le_of_ble_eq_true rfl) dd_L_law_455 ⟨Nat.le_trans (by dsimp only; omega) hcs.1, Nat.le_trans (by dsimp only; omega) hcs.2⟩) hw (fun v9 P3 H locs hp hw => ?_)
    obtain ⟨⟨b9, rfl⟩, hI⟩ := hE _ _ hp
    refine W.eq (g2 := F0 m 458 ls [.int b9]) rfl ?_
    refine lv_istore (lv' := [(6, .int b9), (5, .int (3 : Int32)), (0, .ref b), (1, .ref h0), (2, .ref hm), (3, .ref ao), (4, .int (nI i))]) hx hb dd_L_law_458 hl (by decide) rfl (fun ls hl => ?_)
    refine lv_aload_n hx hb dd_L_law_460 rfl (lv_at hl 4 rfl) ?_
    obtain ⟨vs9, hv9, hM9⟩ := iv_thr (l := l) (z := z) (D := D) (sa := sa) hI
    refine cx_after (cx_rV (n := 0) (As := []) (rest := []) ⟨hx, hb, hml, hown, hg⟩ hM9 (cx_gv gm_L_90 gi_M_thrown gs_M_thrown gn_M gc_M_thrown) (by decide +kernel) ⟨by decide, by decide⟩ hK hw hv9 rfl rfl hl.1 rfl (Nat.le_of_ble_eq_true rfl) dd_L_law_461 ⟨Nat.le_trans (by dsimp only; omega) hcs.1, Nat.le_trans (by dsimp only; omega) hcs.2⟩) hw (fun v9 P9 H locs hp hw => ?_)
    obtain ⟨rfl, e9⟩ := hp
    rw [e9] at hw
    clear e9 P9
    refine W.eq (g2 := F0 m 464 ls [.int (3 : Int32)]) rfl ?_
    refine lv_iload hx hb dd_L_law_464 (lv_at hl 1 rfl) ?_
    refine lv_icmp_eq (tgt := 471) hx hb dd_L_law_466 (by decide) (fun c8 => ?_) (fun c8 => absurd (by decide) c8)
    refine lv_iload hx hb dd_L_law_471 (lv_at hl 1 rfl) ?_
    refine lv_if_ne (tgt := 488) hx hb dd_L_law_473 (by decide) (fun c9 => ?_) (fun c9 => absurd c9 (by decide))
    refine lv_goto (tgt := 1454) hx hb dd_L_law_488 (by decide) ?_
    refine W.widen (k := cells + 16) (n := slots + 64) (by dsimp only; omega) (by dsimp only; omega) ?_
    exact kk P3 3 H _ ls hI hw (lv_sub hl [2, 3, 4, 5, 6] rfl)
  · skip
    obtain ⟨cd, hcd, vs, mp, hv, hM, hE⟩ := hF _ _ hp
    have hcd : cd = 4 := by
      rcases hcd with ⟨q, h⟩ | ⟨q, h⟩ | ⟨q, h⟩ | ⟨q, h⟩ <;> first | exact h | exact absurd q (by decide +kernel)
    subst hcd
    refine W.eq (g2 := F0 m 434 ls [.int (4 : Int32)]) rfl ?_
    refine lv_istore (lv' := [(5, .int (4 : Int32)), (0, .ref b), (1, .ref h0), (2, .ref hm), (3, .ref ao), (4, .int (nI i))]) hx hb dd_L_law_434 hl (by decide) rfl (fun ls hl => ?_)
    refine lv_aload_n hx hb dd_L_law_436 rfl (lv_at hl 3 rfl) ?_
    refine lv_aload_n hx hb dd_L_law_437 rfl (lv_at hl 1 rfl) ?_
    refine lv_iload hx hb dd_L_law_438 (lv_at hl 5 rfl) ?_
    refine lv_iconst (v := 1) hx hb dd_L_law_440 (by decide) ?_
    refine lv_iadd hx hb dd_L_law_441 ?_
    refine va_sld hx hb hX hbl hbA hw.2.2 hv1 dd_L_law_442 ?_
    refine lv_aload_n hx hb dd_L_law_443 rfl (lv_at hl 1 rfl) ?_
    refine lv_iload hx hb dd_L_law_444 (lv_at hl 5 rfl) ?_
    refine lv_iconst (v := 2) hx hb dd_L_law_446 (by decide) ?_
    refine lv_iadd hx hb dd_L_law_447 ?_
    refine va_sld hx hb hX hbl hbA hw.2.2 hv2 dd_L_law_448 ?_
    refine lv_aload_n hx hb dd_L_law_449 rfl (lv_at hl 1 rfl) ?_
    refine lv_iload hx hb dd_L_law_450 (lv_at hl 5 rfl) ?_
    refine lv_iconst (v := 3) hx hb dd_L_law_452 (by decide) ?_
    refine lv_iadd hx hb dd_L_law_453 ?_
    refine va_sld hx hb hX hbl hbA hw.2.2 hv3 dd_L_law_454 ?_
    refine cx_after (cx_rV (n := 3) (As := [.int (xs (nI i + (1 : Int32)).toNatClampNeg), .int (xs (nI i + (2 : Int32)).toNatClampNeg), .int (xs (nI i + (3 : Int32)).toNatClampNeg)]) (rest := []) ⟨hx, hb, hml, hown, hg⟩ hM (cx_gv gm_L_110 gi_M_flow gs_M_flow gn_M gc_M_flow) (by decide +kernel) ⟨by decide, by decide⟩ hK hw hv rfl rfl hl.1 rfl (Nat.le_of_ble_eq_true rfl) dd_L_law_455 ⟨Nat.le_trans (by dsimp only; omega) hcs.1, Nat.le_trans (by dsimp only; omega) hcs.2⟩) hw (fun v9 P3 H locs hp hw => ?_)
    obtain ⟨⟨b9, rfl⟩, hI⟩ := hE _ _ hp
    refine W.eq (g2 := F0 m 458 ls [.int b9]) rfl ?_
    refine lv_istore (lv' := [(6, .int b9), (5, .int (4 : Int32)), (0, .ref b), (1, .ref h0), (2, .ref hm), (3, .ref ao), (4, .int (nI i))]) hx hb dd_L_law_458 hl (by decide) rfl (fun ls hl => ?_)
    refine lv_aload_n hx hb dd_L_law_460 rfl (lv_at hl 4 rfl) ?_
    obtain ⟨vs9, hv9, hM9⟩ := iv_thr (l := l) (z := z) (D := D) (sa := sa) hI
    refine cx_after (cx_rV (n := 0) (As := []) (rest := []) ⟨hx, hb, hml, hown, hg⟩ hM9 (cx_gv gm_L_90 gi_M_thrown gs_M_thrown gn_M gc_M_thrown) (by decide +kernel) ⟨by decide, by decide⟩ hK hw hv9 rfl rfl hl.1 rfl (Nat.le_of_ble_eq_true rfl) dd_L_law_461 ⟨Nat.le_trans (by dsimp only; omega) hcs.1, Nat.le_trans (by dsimp only; omega) hcs.2⟩) hw (fun v9 P9 H locs hp hw => ?_)
    obtain ⟨rfl, e9⟩ := hp
    rw [e9] at hw
    clear e9 P9
    refine W.eq (g2 := F0 m 464 ls [.int (4 : Int32)]) rfl ?_
    refine lv_iload hx hb dd_L_law_464 (lv_at hl 1 rfl) ?_
    refine lv_icmp_eq (tgt := 471) hx hb dd_L_law_466 (by decide) (fun c10 => ?_) (fun c10 => absurd (by decide) c10)
    refine lv_iload hx hb dd_L_law_471 (lv_at hl 1 rfl) ?_
    refine lv_if_ne (tgt := 488) hx hb dd_L_law_473 (by decide) (fun c11 => ?_) (fun c11 => absurd c11 (by decide))
    refine lv_goto (tgt := 1454) hx hb dd_L_law_488 (by decide) ?_
    refine W.widen (k := cells + 16) (n := slots + 64) (by dsimp only; omega) (by dsimp only; omega) ?_
    exact kk P3 4 H _ ls hI hw (lv_sub hl [2, 3, 4, 5, 6] rfl)

set_option maxHeartbeats 4000000 in
set_option maxRecDepth 100000 in
theorem lw_c5 {p : Program} {l : Launch} {e : Env} {s : State} {m : MethodId} {below : List Frame} {meth : Method} {c : Code} {b L : Nat} {xs : Nat → Int32} {z : Nat} {D : va_G} {ac : Nat → ClassId} {sa : Nat → Nat} {Q : State → Prop} (hT : l.stackTraces = false) (hL : L ≤ 3072) (C0 : lw_B p s m c b L xs z D ac sa) {i : Nat} (hi : i + 6 ≤ L) {h0 hm ao : Nat} {P : pm_T} {th : Int32} {H : Heap} {locs : List Loc} {ls : Array Slot} {cells slots : Nat} (hcs : cells + 16 ≤ room_1.cells ∧ slots + 64 ≤ room_1.slots) (hI : iv_I P ac h0 hm ao th) (hw : pm_W z D cl_w P s.heap H locs) (hl : lv_has ls 7 [(0, .ref b), (1, .ref h0), (2, .ref hm), (3, .ref ao), (4, .int (nI i))]) (kk : ∀ (P : pm_T) (th : Int32) (H : Heap) (locs : List Loc) (ls : Array Slot), iv_I P ac h0 hm ao th → pm_W z D cl_w P s.heap H locs → lv_has ls 7 [(0, .ref b), (1, .ref h0), (2, .ref hm), (3, .ref ao), (4, .int (nI i))] → W p l e room_1 s m #[Value.ref b] below meth c H locs (cells + 16) (slots + 64) Q (F0 m 1454 ls [])) : W p l e room_1 s m #[Value.ref b] below meth c H locs cells slots Q (F0 m 491 ls []) := by
  obtain ⟨hx, hb, hml, hown, hg, hX, hbl, hbA, hK⟩ := C0
  have hv1 : vp_in (nI i + (1 : Int32)) L := lw_in (k := 1) rfl hL (by omega)
  have hv2 : vp_in (nI i + (2 : Int32)) L := lw_in (k := 2) rfl hL (by omega)
  have hv3 : vp_in (nI i + (3 : Int32)) L := lw_in (k := 3) rfl hL (by omega)
  have hv4 : vp_in (nI i + (4 : Int32)) L := lw_in (k := 4) rfl hL (by omega)
  have hv5 : vp_in (nI i + (5 : Int32)) L := lw_in (k := 5) rfl hL (by omega)
  refine lv_aload_n hx hb dd_L_law_491 rfl (lv_at hl 1 rfl) ?_
  refine lv_aload_n hx hb dd_L_law_492 rfl (lv_at hl 0 rfl) ?_
  refine lv_iload hx hb dd_L_law_493 (lv_at hl 4 rfl) ?_
  refine lv_iconst (v := 1) hx hb dd_L_law_495 (by decide) ?_
  refine lv_iadd hx hb dd_L_law_496 ?_
  refine va_sld hx hb hX hbl hbA hw.2.2 hv1 dd_L_law_497 ?_
  refine lv_aload_n hx hb dd_L_law_498 rfl (lv_at hl 3 rfl) ?_
  obtain ⟨fs, post, xp, f0, hC, hS, hF⟩ := st_sort l hT z D ac sa P h0 hm ao th (xs (nI i + (1 : Int32)).toNatClampNeg) hI
  refine cx_afterX (cx_rSH (n := 3) (As := [.ref h0, .int (xs (nI i + (1 : Int32)).toNatClampNeg), .ref ao]) (rest := []) ⟨hx, hb, hml, hown, hg⟩ (w_sort l z D ac sa P h0 ao fs (xs (nI i + (1 : Int32)).toNatClampNeg) post xp hC (fun v P1 h => (hS v P1 h).elim (fun r h => h.elim (fun fo h => ⟨r, fo, h.1, h.2.1⟩))) (fun E P1 h => (hF E P1 h).elim (fun cd h => h.1.imp And.left (Or.imp And.left And.left))) f0) gch_L_sort gm_L_111 gt_L_sort gn_L (by decide +kernel) ⟨by decide, by decide⟩ hK hw rfl hl.1 rfl (Nat.le_of_ble_eq_true rfl) dd_L_law_499 ⟨Nat.le_trans (by dsimp only; omega) hcs.1, Nat.le_trans (by dsimp only; omega) hcs.2⟩) hw (fun E9 ce9 q9 P9 H locs hp hw hce hcv hcl => hp.elim) (fun v9 P9 H locs hp hw => ?_)
  rcases hp with ⟨r, P1, fo, hp, fo9, rfl, e9⟩ | ⟨hp, rfl⟩ | ⟨hp, rfl⟩ | ⟨hp, rfl⟩
  · skip
    rw [e9] at hw
    clear e9 P9
    obtain ⟨r1, fo1, e1, -, hN⟩ := hS _ _ hp
    have e1 : r = r1 := Value.int.inj (Option.some.inj e1)
    subst e1
    obtain ⟨vs, mp, hv, hM, hE⟩ := hN (vp_updL fo 0 r.toInt64)
    refine W.eq (g2 := F0 m 502 ls [.int (0 : Int32)]) rfl ?_
    refine lv_istore (lv' := [(5, .int (0 : Int32)), (0, .ref b), (1, .ref h0), (2, .ref hm), (3, .ref ao), (4, .int (nI i))]) hx hb dd_L_law_502 hl (by decide) rfl (fun ls hl => ?_)
    refine lv_aload_n hx hb dd_L_law_504 rfl (lv_at hl 3 rfl) ?_
    refine lv_aload_n hx hb dd_L_law_505 rfl (lv_at hl 1 rfl) ?_
    refine lv_iload hx hb dd_L_law_506 (lv_at hl 5 rfl) ?_
    refine lv_iconst (v := 1) hx hb dd_L_law_508 (by decide) ?_
    refine lv_iadd hx hb dd_L_law_509 ?_
    refine va_sld hx hb hX hbl hbA hw.2.2 hv1 dd_L_law_510 ?_
    refine cx_after (cx_rV (n := 1) (As := [.int (xs (nI i + (1 : Int32)).toNatClampNeg)]) (rest := []) ⟨hx, hb, hml, hown, hg⟩ hM (cx_gv gm_L_114 gi_M_sort gs_M_sort gn_M gc_M_sort) (by decide +kernel) ⟨by decide, by decide⟩ hK hw hv rfl rfl hl.1 rfl (Nat.le_of_ble_eq_true rfl) dd_L_law_511 ⟨Nat.le_trans (by dsimp only; omega) hcs.1, Nat.le_trans (by dsimp only; omega) hcs.2⟩) hw (fun v9 P3 H locs hp hw => ?_)
    obtain ⟨rfl, hI, hao⟩ := hE _ _ hp
    refine W.eq (g2 := F0 m 514 ls [.int r]) rfl ?_
    refine lv_istore (lv' := [(6, .int r), (5, .int (0 : Int32)), (0, .ref b), (1, .ref h0), (2, .ref hm), (3, .ref ao), (4, .int (nI i))]) hx hb dd_L_law_514 hl (by decide) rfl (fun ls hl => ?_)
    refine lv_aload_n hx hb dd_L_law_516 rfl (lv_at hl 4 rfl) ?_
    obtain ⟨vs9, hv9, hM9⟩ := iv_thr (l := l) (z := z) (D := D) (sa := sa) hI
    refine cx_after (cx_rV (n := 0) (As := []) (rest := []) ⟨hx, hb, hml, hown, hg⟩ hM9 (cx_gv gm_L_90 gi_M_thrown gs_M_thrown gn_M gc_M_thrown) (by decide +kernel) ⟨by decide, by decide⟩ hK hw hv9 rfl rfl hl.1 rfl (Nat.le_of_ble_eq_true rfl) dd_L_law_517 ⟨Nat.le_trans (by dsimp only; omega) hcs.1, Nat.le_trans (by dsimp only; omega) hcs.2⟩) hw (fun v9 P9 H locs hp hw => ?_)
    obtain ⟨rfl, e9⟩ := hp
    rw [e9] at hw
    clear e9 P9
    refine W.eq (g2 := F0 m 520 ls [.int (0 : Int32)]) rfl ?_
    refine lv_iload hx hb dd_L_law_520 (lv_at hl 1 rfl) ?_
    refine lv_icmp_eq (tgt := 527) hx hb dd_L_law_522 (by decide) (fun c1 => ?_) (fun c1 => absurd (by decide) c1)
    refine lv_iload hx hb dd_L_law_527 (lv_at hl 1 rfl) ?_
    refine lv_if_ne (tgt := 544) hx hb dd_L_law_529 (by decide) (fun c2 => absurd (by decide) c2) (fun c2 => ?_)
    refine lv_aload_n hx hb dd_L_law_532 rfl (lv_at hl 5 rfl) ?_
    refine lv_iconst (v := 0) hx hb dd_L_law_533 (by decide) ?_
    refine pm_lald hx hb hK.2.1 hw 1 hao rfl (show vp_in (0 : Int32) 1 from vp_in_nI (n := 0) (by decide) (by decide)) dd_L_law_534 ?_
    refine lv_iload hx hb dd_L_law_535 (lv_at hl 0 rfl) ?_
    refine lv_i2l hx hb dd_L_law_537 rfl ?_
    refine W.lcmp hx hb dd_L_law_538 ?_
    refine lv_if_eq (tgt := 544) hx hb dd_L_law_539 (by decide) (fun c3 => ?_) (fun c3 => absurd (lw_cmp rfl) c3)
    refine lv_goto (tgt := 1454) hx hb dd_L_law_544 (by decide) ?_
    refine W.widen (k := cells + 16) (n := slots + 64) (by dsimp only; omega) (by dsimp only; omega) ?_
    exact kk P3 0 H _ ls hI hw (lv_sub hl [2, 3, 4, 5, 6] rfl)
  · skip
    obtain ⟨cd, hcd, vs, mp, hv, hM, hE⟩ := hF _ _ hp
    have hcd : cd = 1 := by
      rcases hcd with ⟨q, h⟩ | ⟨q, h⟩ | ⟨q, h⟩ <;> first | exact h | exact absurd q (by decide +kernel)
    subst hcd
    refine W.eq (g2 := F0 m 502 ls [.int (1 : Int32)]) rfl ?_
    refine lv_istore (lv' := [(5, .int (1 : Int32)), (0, .ref b), (1, .ref h0), (2, .ref hm), (3, .ref ao), (4, .int (nI i))]) hx hb dd_L_law_502 hl (by decide) rfl (fun ls hl => ?_)
    refine lv_aload_n hx hb dd_L_law_504 rfl (lv_at hl 3 rfl) ?_
    refine lv_aload_n hx hb dd_L_law_505 rfl (lv_at hl 1 rfl) ?_
    refine lv_iload hx hb dd_L_law_506 (lv_at hl 5 rfl) ?_
    refine lv_iconst (v := 1) hx hb dd_L_law_508 (by decide) ?_
    refine lv_iadd hx hb dd_L_law_509 ?_
    refine va_sld hx hb hX hbl hbA hw.2.2 hv1 dd_L_law_510 ?_
    refine cx_after (cx_rV (n := 1) (As := [.int (xs (nI i + (1 : Int32)).toNatClampNeg)]) (rest := []) ⟨hx, hb, hml, hown, hg⟩ hM (cx_gv gm_L_114 gi_M_sort gs_M_sort gn_M gc_M_sort) (by decide +kernel) ⟨by decide, by decide⟩ hK hw hv rfl rfl hl.1 rfl (Nat.le_of_ble_eq_true rfl) dd_L_law_511 ⟨Nat.le_trans (by dsimp only; omega) hcs.1, Nat.le_trans (by dsimp only; omega) hcs.2⟩) hw (fun v9 P3 H locs hp hw => ?_)
    obtain ⟨⟨b9, rfl⟩, hI⟩ := hE _ _ hp
    refine W.eq (g2 := F0 m 514 ls [.int b9]) rfl ?_
    refine lv_istore (lv' := [(6, .int b9), (5, .int (1 : Int32)), (0, .ref b), (1, .ref h0), (2, .ref hm), (3, .ref ao), (4, .int (nI i))]) hx hb dd_L_law_514 hl (by decide) rfl (fun ls hl => ?_)
    refine lv_aload_n hx hb dd_L_law_516 rfl (lv_at hl 4 rfl) ?_
    obtain ⟨vs9, hv9, hM9⟩ := iv_thr (l := l) (z := z) (D := D) (sa := sa) hI
    refine cx_after (cx_rV (n := 0) (As := []) (rest := []) ⟨hx, hb, hml, hown, hg⟩ hM9 (cx_gv gm_L_90 gi_M_thrown gs_M_thrown gn_M gc_M_thrown) (by decide +kernel) ⟨by decide, by decide⟩ hK hw hv9 rfl rfl hl.1 rfl (Nat.le_of_ble_eq_true rfl) dd_L_law_517 ⟨Nat.le_trans (by dsimp only; omega) hcs.1, Nat.le_trans (by dsimp only; omega) hcs.2⟩) hw (fun v9 P9 H locs hp hw => ?_)
    obtain ⟨rfl, e9⟩ := hp
    rw [e9] at hw
    clear e9 P9
    refine W.eq (g2 := F0 m 520 ls [.int (1 : Int32)]) rfl ?_
    refine lv_iload hx hb dd_L_law_520 (lv_at hl 1 rfl) ?_
    refine lv_icmp_eq (tgt := 527) hx hb dd_L_law_522 (by decide) (fun c4 => ?_) (fun c4 => absurd (by decide) c4)
    refine lv_iload hx hb dd_L_law_527 (lv_at hl 1 rfl) ?_
    refine lv_if_ne (tgt := 544) hx hb dd_L_law_529 (by decide) (fun c5 => ?_) (fun c5 => absurd c5 (by decide))
    refine lv_goto (tgt := 1454) hx hb dd_L_law_544 (by decide) ?_
    refine W.widen (k := cells + 16) (n := slots + 64) (by dsimp only; omega) (by dsimp only; omega) ?_
    exact kk P3 1 H _ ls hI hw (lv_sub hl [2, 3, 4, 5, 6] rfl)
  · skip
    obtain ⟨cd, hcd, vs, mp, hv, hM, hE⟩ := hF _ _ hp
    have hcd : cd = 2 := by
      rcases hcd with ⟨q, h⟩ | ⟨q, h⟩ | ⟨q, h⟩ <;> first | exact h | exact absurd q (by decide +kernel)
    subst hcd
    refine W.eq (g2 := F0 m 502 ls [.int (2 : Int32)]) rfl ?_
    refine lv_istore (lv' := [(5, .int (2 : Int32)), (0, .ref b), (1, .ref h0), (2, .ref hm), (3, .ref ao), (4, .int (nI i))]) hx hb dd_L_law_502 hl (by decide) rfl (fun ls hl => ?_)
    refine lv_aload_n hx hb dd_L_law_504 rfl (lv_at hl 3 rfl) ?_
    refine lv_aload_n hx hb dd_L_law_505 rfl (lv_at hl 1 rfl) ?_
    refine lv_iload hx hb dd_L_law_506 (lv_at hl 5 rfl) ?_
    refine lv_iconst (v := 1) hx hb dd_L_law_508 (by decide) ?_
    refine lv_iadd hx hb dd_L_law_509 ?_
    refine va_sld hx hb hX hbl hbA hw.2.2 hv1 dd_L_law_510 ?_
    refine cx_after (cx_rV (n := 1) (As := [.int (xs (nI i + (1 : Int32)).toNatClampNeg)]) (rest := []) ⟨hx, hb, hml, hown, hg⟩ hM (cx_gv gm_L_114 gi_M_sort gs_M_sort gn_M gc_M_sort) (by decide +kernel) ⟨by decide, by decide⟩ hK hw hv rfl rfl hl.1 rfl (Nat.le_of_ble_eq_true rfl) dd_L_law_511 ⟨Nat.le_trans (by dsimp only; omega) hcs.1, Nat.le_trans (by dsimp only; omega) hcs.2⟩) hw (fun v9 P3 H locs hp hw => ?_)
    obtain ⟨⟨b9, rfl⟩, hI⟩ := hE _ _ hp
    refine W.eq (g2 := F0 m 514 ls [.int b9]) rfl ?_
    refine lv_istore (lv' := [(6, .int b9), (5, .int (2 : Int32)), (0, .ref b), (1, .ref h0), (2, .ref hm), (3, .ref ao), (4, .int (nI i))]) hx hb dd_L_law_514 hl (by decide) rfl (fun ls hl => ?_)
    refine lv_aload_n hx hb dd_L_law_516 rfl (lv_at hl 4 rfl) ?_
    obtain ⟨vs9, hv9, hM9⟩ := iv_thr (l := l) (z := z) (D := D) (sa := sa) hI
    refine cx_after (cx_rV (n := 0) (As := []) (rest := []) ⟨hx, hb, hml, hown, hg⟩ hM9 (cx_gv gm_L_90 gi_M_thrown gs_M_thrown gn_M gc_M_thrown) (by decide +kernel) ⟨by decide, by decide⟩ hK hw hv9 rfl rfl hl.1 rfl (Nat.le_of_ble_eq_true rfl) dd_L_law_517 ⟨Nat.le_trans (by dsimp only; omega) hcs.1, Nat.le_trans (by dsimp only; omega) hcs.2⟩) hw (fun v9 P9 H locs hp hw => ?_)
    obtain ⟨rfl, e9⟩ := hp
    rw [e9] at hw
    clear e9 P9
    refine W.eq (g2 := F0 m 520 ls [.int (2 : Int32)]) rfl ?_
    refine lv_iload hx hb dd_L_law_520 (lv_at hl 1 rfl) ?_
    refine lv_icmp_eq (tgt := 527) hx hb dd_L_law_522 (by decide) (fun c6 => ?_) (fun c6 => absurd (by decide) c6)
    refine lv_iload hx hb dd_L_law_527 (lv_at hl 1 rfl) ?_
    refine lv_if_ne (tgt := 544) hx hb dd_L_law_529 (by decide) (fun c7 => ?_) (fun c7 => absurd c7 (by decide))
    refine lv_goto (tgt := 1454) hx hb dd_L_law_544 (by decide) ?_
    refine W.widen (k := cells + 16) (n := slots + 64) (by dsimp only; omega) (by dsimp only; omega) ?_
    exact kk P3 2 H _ ls hI hw (lv_sub hl [2, 3, 4, 5, 6] rfl)
  · skip
    obtain ⟨cd, hcd, vs, mp, hv, hM, hE⟩ := hF _ _ hp
    have hcd : cd = 3 := by
      rcases hcd with ⟨q, h⟩ | ⟨q, h⟩ | ⟨q, h⟩ <;> first | exact h | exact absurd q (by decide +kernel)
    subst hcd
    refine W.eq (g2 := F0 m 502 ls [.int (3 : Int32)]) rfl ?_
    refine lv_istore (lv' := [(5, .int (3 : Int32)), (0, .ref b), (1, .ref h0), (2, .ref hm), (3, .ref ao), (4, .int (nI i))]) hx hb dd_L_law_502 hl (by decide) rfl (fun ls hl => ?_)
    refine lv_aload_n hx hb dd_L_law_504 rfl (lv_at hl 3 rfl) ?_
    refine lv_aload_n hx hb dd_L_law_505 rfl (lv_at hl 1 rfl) ?_
    refine lv_iload hx hb dd_L_law_506 (lv_at hl 5 rfl) ?_
    refine lv_iconst (v := 1) hx hb dd_L_law_508 (by decide) ?_
    refine lv_iadd hx hb dd_L_law_509 ?_
    refine va_sld hx hb hX hbl hbA hw.2.2 hv1 dd_L_law_510 ?_
    refine cx_after (cx_rV (n := 1) (As := [.int (xs (nI i + (1 : Int32)).toNatClampNeg)]) (rest := []) ⟨hx, hb, hml, hown, hg⟩ hM (cx_gv gm_L_114 gi_M_sort gs_M_sort gn_M gc_M_sort) (by decide +kernel) ⟨by decide, by decide⟩ hK hw hv rfl rfl hl.1 rfl (Nat.le_of_ble_eq_true rfl) dd_L_law_511 ⟨Nat.le_trans (by dsimp only; omega) hcs.1, Nat.le_trans (by dsimp only; omega) hcs.2⟩) hw (fun v9 P3 H locs hp hw => ?_)
    obtain ⟨⟨b9, rfl⟩, hI⟩ := hE _ _ hp
    refine W.eq (g2 := F0 m 514 ls [.int b9]) rfl ?_
    refine lv_istore (lv' := [(6, .int b9), (5, .int (3 : Int32)), (0, .ref b), (1, .ref h0), (2, .ref hm), (3, .ref ao), (4, .int (nI i))]) hx hb dd_L_law_514 hl (by decide) rfl (fun ls hl => ?_)
    refine lv_aload_n hx hb dd_L_law_516 rfl (lv_at hl 4 rfl) ?_
    obtain ⟨vs9, hv9, hM9⟩ := iv_thr (l := l) (z := z) (D := D) (sa := sa) hI
    refine cx_after (cx_rV (n := 0) (As := []) (rest := []) ⟨hx, hb, hml, hown, hg⟩ hM9 (cx_gv gm_L_90 gi_M_thrown gs_M_thrown gn_M gc_M_thrown) (by decide +kernel) ⟨by decide, by decide⟩ hK hw hv9 rfl rfl hl.1 rfl (Nat.le_of_ble_eq_true rfl) dd_L_law_517 ⟨Nat.le_trans (by dsimp only; omega) hcs.1, Nat.le_trans (by dsimp only; omega) hcs.2⟩) hw (fun v9 P9 H locs hp hw => ?_)
    obtain ⟨rfl, e9⟩ := hp
    rw [e9] at hw
    clear e9 P9
    refine W.eq (g2 := F0 m 520 ls [.int (3 : Int32)]) rfl ?_
    refine lv_iload hx hb dd_L_law_520 (lv_at hl 1 rfl) ?_
    refine lv_icmp_eq (tgt := 527) hx hb dd_L_law_522 (by decide) (fun c8 => ?_) (fun c8 => absurd (by decide) c8)
    refine lv_iload hx hb dd_L_law_527 (lv_at hl 1 rfl) ?_
    refine lv_if_ne (tgt := 544) hx hb dd_L_law_529 (by decide) (fun c9 => ?_) (fun c9 => absurd c9 (by decide))
    refine lv_goto (tgt := 1454) hx hb dd_L_law_544 (by decide) ?_
    refine W.widen (k := cells + 16) (n := slots + 64) (by dsimp only; omega) (by dsimp only; omega) ?_
    exact kk P3 3 H _ ls hI hw (lv_sub hl [2, 3, 4, 5, 6] rfl)

set_option maxHeartbeats 4000000 in
set_option maxRecDepth 100000 in
theorem lw_c6 {p : Program} {l : Launch} {e : Env} {s : State} {m : MethodId} {below : List Frame} {meth : Method} {c : Code} {b L : Nat} {xs : Nat → Int32} {z : Nat} {D : va_G} {ac : Nat → ClassId} {sa : Nat → Nat} {Q : State → Prop} (hT : l.stackTraces = false) (hL : L ≤ 3072) (C0 : lw_B p s m c b L xs z D ac sa) {i : Nat} (hi : i + 6 ≤ L) {h0 hm ao : Nat} {P : pm_T} {th : Int32} {H : Heap} {locs : List Loc} {ls : Array Slot} {cells slots : Nat} (hcs : cells + 16 ≤ room_1.cells ∧ slots + 64 ≤ room_1.slots) (hI : iv_I P ac h0 hm ao th) (hw : pm_W z D cl_w P s.heap H locs) (hl : lv_has ls 7 [(0, .ref b), (1, .ref h0), (2, .ref hm), (3, .ref ao), (4, .int (nI i))]) (kk : ∀ (P : pm_T) (th : Int32) (H : Heap) (locs : List Loc) (ls : Array Slot), iv_I P ac h0 hm ao th → pm_W z D cl_w P s.heap H locs → lv_has ls 7 [(0, .ref b), (1, .ref h0), (2, .ref hm), (3, .ref ao), (4, .int (nI i))] → W p l e room_1 s m #[Value.ref b] below meth c H locs (cells + 16) (slots + 64) Q (F0 m 1454 ls [])) : W p l e room_1 s m #[Value.ref b] below meth c H locs cells slots Q (F0 m 547 ls []) := by
  obtain ⟨hx, hb, hml, hown, hg, hX, hbl, hbA, hK⟩ := C0
  have hv1 : vp_in (nI i + (1 : Int32)) L := lw_in (k := 1) rfl hL (by omega)
  have hv2 : vp_in (nI i + (2 : Int32)) L := lw_in (k := 2) rfl hL (by omega)
  have hv3 : vp_in (nI i + (3 : Int32)) L := lw_in (k := 3) rfl hL (by omega)
  have hv4 : vp_in (nI i + (4 : Int32)) L := lw_in (k := 4) rfl hL (by omega)
  have hv5 : vp_in (nI i + (5 : Int32)) L := lw_in (k := 5) rfl hL (by omega)
  refine lv_aload_n hx hb dd_L_law_547 rfl (lv_at hl 1 rfl) ?_
  refine lv_aload_n hx hb dd_L_law_548 rfl (lv_at hl 0 rfl) ?_
  refine lv_iload hx hb dd_L_law_549 (lv_at hl 4 rfl) ?_
  refine lv_iconst (v := 1) hx hb dd_L_law_551 (by decide) ?_
  refine lv_iadd hx hb dd_L_law_552 ?_
  refine va_sld hx hb hX hbl hbA hw.2.2 hv1 dd_L_law_553 ?_
  refine lv_aload_n hx hb dd_L_law_554 rfl (lv_at hl 0 rfl) ?_
  refine lv_iload hx hb dd_L_law_555 (lv_at hl 4 rfl) ?_
  refine lv_iconst (v := 2) hx hb dd_L_law_557 (by decide) ?_
  refine lv_iadd hx hb dd_L_law_558 ?_
  refine va_sld hx hb hX hbl hbA hw.2.2 hv2 dd_L_law_559 ?_
  obtain ⟨fs, post, xp, f0, hC, hS, hF⟩ := st_defect l hT z D ac sa P h0 hm ao th (xs (nI i + (1 : Int32)).toNatClampNeg) (xs (nI i + (2 : Int32)).toNatClampNeg) hI
  refine cx_afterX (cx_rSH (n := 3) (As := [.ref h0, .int (xs (nI i + (1 : Int32)).toNatClampNeg), .int (xs (nI i + (2 : Int32)).toNatClampNeg)]) (rest := []) ⟨hx, hb, hml, hown, hg⟩ (w_defect l z D ac sa P h0 fs (xs (nI i + (1 : Int32)).toNatClampNeg) (xs (nI i + (2 : Int32)).toNatClampNeg) post xp hC (fun v P1 h => (hS v P1 h).1) (fun E P1 h => (hF E P1 h).elim (fun cd h => h.1.imp And.left And.left)) f0) gch_L_defect gm_L_115 gt_L_defect gn_L (by decide +kernel) ⟨by decide, by decide⟩ hK hw rfl hl.1 rfl (Nat.le_of_ble_eq_true rfl) dd_L_law_560 ⟨Nat.le_trans (by dsimp only; omega) hcs.1, Nat.le_trans (by dsimp only; omega) hcs.2⟩) hw (fun E9 ce9 q9 P9 H locs hp hw hce hcv hcl => hp.elim) (fun v9 P9 H locs hp hw => ?_)
  rcases hp with ⟨hp, rfl⟩ | ⟨hp, rfl⟩ | ⟨hp, rfl⟩
  · skip
    obtain ⟨-, vs, mp, hv, hM, hE⟩ := hS _ _ hp
    refine W.eq (g2 := F0 m 563 ls [.int (0 : Int32)]) rfl ?_
    refine lv_istore (lv' := [(5, .int (0 : Int32)), (0, .ref b), (1, .ref h0), (2, .ref hm), (3, .ref ao), (4, .int (nI i))]) hx hb dd_L_law_563 hl (by decide) rfl (fun ls hl => ?_)
    refine lv_aload_n hx hb dd_L_law_565 rfl (lv_at hl 3 rfl) ?_
    refine lv_aload_n hx hb dd_L_law_566 rfl (lv_at hl 1 rfl) ?_
    refine lv_iload hx hb dd_L_law_567 (lv_at hl 5 rfl) ?_
    refine lv_iconst (v := 1) hx hb dd_L_law_569 (by decide) ?_
    refine lv_iadd hx hb dd_L_law_570 ?_
    refine va_sld hx hb hX hbl hbA hw.2.2 hv1 dd_L_law_571 ?_
    refine lv_aload_n hx hb dd_L_law_572 rfl (lv_at hl 1 rfl) ?_
    refine lv_iload hx hb dd_L_law_573 (lv_at hl 5 rfl) ?_
    refine lv_iconst (v := 2) hx hb dd_L_law_575 (by decide) ?_
    refine lv_iadd hx hb dd_L_law_576 ?_
    refine va_sld hx hb hX hbl hbA hw.2.2 hv2 dd_L_law_577 ?_
    refine cx_after (cx_rV (n := 2) (As := [.int (xs (nI i + (1 : Int32)).toNatClampNeg), .int (xs (nI i + (2 : Int32)).toNatClampNeg)]) (rest := []) ⟨hx, hb, hml, hown, hg⟩ hM (cx_gv gm_L_117 gi_M_defect gs_M_defect gn_M gc_M_defect) (by decide +kernel) ⟨by decide, by decide⟩ hK hw hv rfl rfl hl.1 rfl (Nat.le_of_ble_eq_true rfl) dd_L_law_578 ⟨Nat.le_trans (by dsimp only; omega) hcs.1, Nat.le_trans (by dsimp only; omega) hcs.2⟩) hw (fun v9 P3 H locs hp hw => ?_)
    obtain ⟨rfl, hI⟩ := hE _ _ hp
    refine W.eq (g2 := F0 m 581 ls []) rfl ?_
    refine lv_aload_n hx hb dd_L_law_581 rfl (lv_at hl 3 rfl) ?_
    obtain ⟨vs9, hv9, hM9⟩ := iv_thr (l := l) (z := z) (D := D) (sa := sa) hI
    refine cx_after (cx_rV (n := 0) (As := []) (rest := []) ⟨hx, hb, hml, hown, hg⟩ hM9 (cx_gv gm_L_90 gi_M_thrown gs_M_thrown gn_M gc_M_thrown) (by decide +kernel) ⟨by decide, by decide⟩ hK hw hv9 rfl rfl hl.1 rfl (Nat.le_of_ble_eq_true rfl) dd_L_law_582 ⟨Nat.le_trans (by dsimp only; omega) hcs.1, Nat.le_trans (by dsimp only; omega) hcs.2⟩) hw (fun v9 P9 H locs hp hw => ?_)
    obtain ⟨rfl, e9⟩ := hp
    rw [e9] at hw
    clear e9 P9
    refine W.eq (g2 := F0 m 585 ls [.int (0 : Int32)]) rfl ?_
    refine lv_iload hx hb dd_L_law_585 (lv_at hl 0 rfl) ?_
    refine lv_icmp_eq (tgt := 592) hx hb dd_L_law_587 (by decide) (fun c1 => ?_) (fun c1 => absurd (by decide) c1)
    refine lv_goto (tgt := 1454) hx hb dd_L_law_592 (by decide) ?_
    refine W.widen (k := cells + 16) (n := slots + 64) (by dsimp only; omega) (by dsimp only; omega) ?_
    exact kk P3 0 H _ ls hI hw (lv_sub hl [1, 2, 3, 4, 5] rfl)
  · skip
    obtain ⟨cd, hcd, vs, mp, hv, hM, hE⟩ := hF _ _ hp
    have hcd : cd = 1 := by
      rcases hcd with ⟨q, h⟩ | ⟨q, h⟩ <;> first | exact h | exact absurd q (by decide +kernel)
    subst hcd
    refine W.eq (g2 := F0 m 563 ls [.int (1 : Int32)]) rfl ?_
    refine lv_istore (lv' := [(5, .int (1 : Int32)), (0, .ref b), (1, .ref h0), (2, .ref hm), (3, .ref ao), (4, .int (nI i))]) hx hb dd_L_law_563 hl (by decide) rfl (fun ls hl => ?_)
    refine lv_aload_n hx hb dd_L_law_565 rfl (lv_at hl 3 rfl) ?_
    refine lv_aload_n hx hb dd_L_law_566 rfl (lv_at hl 1 rfl) ?_
    refine lv_iload hx hb dd_L_law_567 (lv_at hl 5 rfl) ?_
    refine lv_iconst (v := 1) hx hb dd_L_law_569 (by decide) ?_
    refine lv_iadd hx hb dd_L_law_570 ?_
    refine va_sld hx hb hX hbl hbA hw.2.2 hv1 dd_L_law_571 ?_
    refine lv_aload_n hx hb dd_L_law_572 rfl (lv_at hl 1 rfl) ?_
    refine lv_iload hx hb dd_L_law_573 (lv_at hl 5 rfl) ?_
    refine lv_iconst (v := 2) hx hb dd_L_law_575 (by decide) ?_
    refine lv_iadd hx hb dd_L_law_576 ?_
    refine va_sld hx hb hX hbl hbA hw.2.2 hv2 dd_L_law_577 ?_
    refine cx_after (cx_rV (n := 2) (As := [.int (xs (nI i + (1 : Int32)).toNatClampNeg), .int (xs (nI i + (2 : Int32)).toNatClampNeg)]) (rest := []) ⟨hx, hb, hml, hown, hg⟩ hM (cx_gv gm_L_117 gi_M_defect gs_M_defect gn_M gc_M_defect) (by decide +kernel) ⟨by decide, by decide⟩ hK hw hv rfl rfl hl.1 rfl (Nat.le_of_ble_eq_true rfl) dd_L_law_578 ⟨Nat.le_trans (by dsimp only; omega) hcs.1, Nat.le_trans (by dsimp only; omega) hcs.2⟩) hw (fun v9 P3 H locs hp hw => ?_)
    obtain ⟨rfl, hI⟩ := hE _ _ hp
    refine W.eq (g2 := F0 m 581 ls []) rfl ?_
    refine lv_aload_n hx hb dd_L_law_581 rfl (lv_at hl 3 rfl) ?_
    obtain ⟨vs9, hv9, hM9⟩ := iv_thr (l := l) (z := z) (D := D) (sa := sa) hI
    refine cx_after (cx_rV (n := 0) (As := []) (rest := []) ⟨hx, hb, hml, hown, hg⟩ hM9 (cx_gv gm_L_90 gi_M_thrown gs_M_thrown gn_M gc_M_thrown) (by decide +kernel) ⟨by decide, by decide⟩ hK hw hv9 rfl rfl hl.1 rfl (Nat.le_of_ble_eq_true rfl) dd_L_law_582 ⟨Nat.le_trans (by dsimp only; omega) hcs.1, Nat.le_trans (by dsimp only; omega) hcs.2⟩) hw (fun v9 P9 H locs hp hw => ?_)
    obtain ⟨rfl, e9⟩ := hp
    rw [e9] at hw
    clear e9 P9
    refine W.eq (g2 := F0 m 585 ls [.int (1 : Int32)]) rfl ?_
    refine lv_iload hx hb dd_L_law_585 (lv_at hl 0 rfl) ?_
    refine lv_icmp_eq (tgt := 592) hx hb dd_L_law_587 (by decide) (fun c2 => ?_) (fun c2 => absurd (by decide) c2)
    refine lv_goto (tgt := 1454) hx hb dd_L_law_592 (by decide) ?_
    refine W.widen (k := cells + 16) (n := slots + 64) (by dsimp only; omega) (by dsimp only; omega) ?_
    exact kk P3 1 H _ ls hI hw (lv_sub hl [1, 2, 3, 4, 5] rfl)
  · skip
    obtain ⟨cd, hcd, vs, mp, hv, hM, hE⟩ := hF _ _ hp
    have hcd : cd = 2 := by
      rcases hcd with ⟨q, h⟩ | ⟨q, h⟩ <;> first | exact h | exact absurd q (by decide +kernel)
    subst hcd
    refine W.eq (g2 := F0 m 563 ls [.int (2 : Int32)]) rfl ?_
    refine lv_istore (lv' := [(5, .int (2 : Int32)), (0, .ref b), (1, .ref h0), (2, .ref hm), (3, .ref ao), (4, .int (nI i))]) hx hb dd_L_law_563 hl (by decide) rfl (fun ls hl => ?_)
    refine lv_aload_n hx hb dd_L_law_565 rfl (lv_at hl 3 rfl) ?_
    refine lv_aload_n hx hb dd_L_law_566 rfl (lv_at hl 1 rfl) ?_
    refine lv_iload hx hb dd_L_law_567 (lv_at hl 5 rfl) ?_
    refine lv_iconst (v := 1) hx hb dd_L_law_569 (by decide) ?_
    refine lv_iadd hx hb dd_L_law_570 ?_
    refine va_sld hx hb hX hbl hbA hw.2.2 hv1 dd_L_law_571 ?_
    refine lv_aload_n hx hb dd_L_law_572 rfl (lv_at hl 1 rfl) ?_
    refine lv_iload hx hb dd_L_law_573 (lv_at hl 5 rfl) ?_
    refine lv_iconst (v := 2) hx hb dd_L_law_575 (by decide) ?_
    refine lv_iadd hx hb dd_L_law_576 ?_
    refine va_sld hx hb hX hbl hbA hw.2.2 hv2 dd_L_law_577 ?_
    refine cx_after (cx_rV (n := 2) (As := [.int (xs (nI i + (1 : Int32)).toNatClampNeg), .int (xs (nI i + (2 : Int32)).toNatClampNeg)]) (rest := []) ⟨hx, hb, hml, hown, hg⟩ hM (cx_gv gm_L_117 gi_M_defect gs_M_defect gn_M gc_M_defect) (by decide +kernel) ⟨by decide, by decide⟩ hK hw hv rfl rfl hl.1 rfl (Nat.le_of_ble_eq_true rfl) dd_L_law_578 ⟨Nat.le_trans (by dsimp only; omega) hcs.1, Nat.le_trans (by dsimp only; omega) hcs.2⟩) hw (fun v9 P3 H locs hp hw => ?_)
    obtain ⟨rfl, hI⟩ := hE _ _ hp
    refine W.eq (g2 := F0 m 581 ls []) rfl ?_
    refine lv_aload_n hx hb dd_L_law_581 rfl (lv_at hl 3 rfl) ?_
    obtain ⟨vs9, hv9, hM9⟩ := iv_thr (l := l) (z := z) (D := D) (sa := sa) hI
    refine cx_after (cx_rV (n := 0) (As := []) (rest := []) ⟨hx, hb, hml, hown, hg⟩ hM9 (cx_gv gm_L_90 gi_M_thrown gs_M_thrown gn_M gc_M_thrown) (by decide +kernel) ⟨by decide, by decide⟩ hK hw hv9 rfl rfl hl.1 rfl (Nat.le_of_ble_eq_true rfl) dd_L_law_582 ⟨Nat.le_trans (by dsimp only; omega) hcs.1, Nat.le_trans (by dsimp only; omega) hcs.2⟩) hw (fun v9 P9 H locs hp hw => ?_)
    obtain ⟨rfl, e9⟩ := hp
    rw [e9] at hw
    clear e9 P9
    refine W.eq (g2 := F0 m 585 ls [.int (2 : Int32)]) rfl ?_
    refine lv_iload hx hb dd_L_law_585 (lv_at hl 0 rfl) ?_
    refine lv_icmp_eq (tgt := 592) hx hb dd_L_law_587 (by decide) (fun c3 => ?_) (fun c3 => absurd (by decide) c3)
    refine lv_goto (tgt := 1454) hx hb dd_L_law_592 (by decide) ?_
    refine W.widen (k := cells + 16) (n := slots + 64) (by dsimp only; omega) (by dsimp only; omega) ?_
    exact kk P3 2 H _ ls hI hw (lv_sub hl [1, 2, 3, 4, 5] rfl)

set_option maxHeartbeats 4000000 in
set_option maxRecDepth 100000 in
theorem lw_c7 {p : Program} {l : Launch} {e : Env} {s : State} {m : MethodId} {below : List Frame} {meth : Method} {c : Code} {b L : Nat} {xs : Nat → Int32} {z : Nat} {D : va_G} {ac : Nat → ClassId} {sa : Nat → Nat} {Q : State → Prop} (hT : l.stackTraces = false) (hL : L ≤ 3072) (C0 : lw_B p s m c b L xs z D ac sa) {i : Nat} (hi : i + 6 ≤ L) {h0 hm ao : Nat} {P : pm_T} {th : Int32} {H : Heap} {locs : List Loc} {ls : Array Slot} {cells slots : Nat} (hcs : cells + 16 ≤ room_1.cells ∧ slots + 64 ≤ room_1.slots) (hI : iv_I P ac h0 hm ao th) (hw : pm_W z D cl_w P s.heap H locs) (hl : lv_has ls 7 [(0, .ref b), (1, .ref h0), (2, .ref hm), (3, .ref ao), (4, .int (nI i))]) (kk : ∀ (P : pm_T) (th : Int32) (H : Heap) (locs : List Loc) (ls : Array Slot), iv_I P ac h0 hm ao th → pm_W z D cl_w P s.heap H locs → lv_has ls 7 [(0, .ref b), (1, .ref h0), (2, .ref hm), (3, .ref ao), (4, .int (nI i))] → W p l e room_1 s m #[Value.ref b] below meth c H locs (cells + 16) (slots + 64) Q (F0 m 1454 ls [])) : W p l e room_1 s m #[Value.ref b] below meth c H locs cells slots Q (F0 m 595 ls []) := by
  obtain ⟨hx, hb, hml, hown, hg, hX, hbl, hbA, hK⟩ := C0
  have hv1 : vp_in (nI i + (1 : Int32)) L := lw_in (k := 1) rfl hL (by omega)
  have hv2 : vp_in (nI i + (2 : Int32)) L := lw_in (k := 2) rfl hL (by omega)
  have hv3 : vp_in (nI i + (3 : Int32)) L := lw_in (k := 3) rfl hL (by omega)
  have hv4 : vp_in (nI i + (4 : Int32)) L := lw_in (k := 4) rfl hL (by omega)
  have hv5 : vp_in (nI i + (5 : Int32)) L := lw_in (k := 5) rfl hL (by omega)
  refine lv_aload_n hx hb dd_L_law_595 rfl (lv_at hl 1 rfl) ?_
  refine lv_aload_n hx hb dd_L_law_596 rfl (lv_at hl 0 rfl) ?_
  refine lv_iload hx hb dd_L_law_597 (lv_at hl 4 rfl) ?_
  refine lv_iconst (v := 1) hx hb dd_L_law_599 (by decide) ?_
  refine lv_iadd hx hb dd_L_law_600 ?_
  refine va_sld hx hb hX hbl hbA hw.2.2 hv1 dd_L_law_601 ?_
  refine lv_aload_n hx hb dd_L_law_602 rfl (lv_at hl 0 rfl) ?_
  refine lv_iload hx hb dd_L_law_603 (lv_at hl 4 rfl) ?_
  refine lv_iconst (v := 2) hx hb dd_L_law_605 (by decide) ?_
  refine lv_iadd hx hb dd_L_law_606 ?_
  refine va_sld hx hb hX hbl hbA hw.2.2 hv2 dd_L_law_607 ?_
  refine lv_aload_n hx hb dd_L_law_608 rfl (lv_at hl 0 rfl) ?_
  refine lv_iload hx hb dd_L_law_609 (lv_at hl 4 rfl) ?_
  refine lv_iconst (v := 3) hx hb dd_L_law_611 (by decide) ?_
  refine lv_iadd hx hb dd_L_law_612 ?_
  refine va_sld hx hb hX hbl hbA hw.2.2 hv3 dd_L_law_613 ?_
  obtain ⟨fs, post, xp, f0, hC, hS, hF⟩ := st_works l hT z D ac sa P h0 hm ao th (xs (nI i + (1 : Int32)).toNatClampNeg) (xs (nI i + (2 : Int32)).toNatClampNeg) (xs (nI i + (3 : Int32)).toNatClampNeg) hI
  refine cx_afterX (cx_rSH (n := 4) (As := [.ref h0, .int (xs (nI i + (1 : Int32)).toNatClampNeg), .int (xs (nI i + (2 : Int32)).toNatClampNeg), .int (xs (nI i + (3 : Int32)).toNatClampNeg)]) (rest := []) ⟨hx, hb, hml, hown, hg⟩ (w_works l z D ac sa P h0 fs (xs (nI i + (1 : Int32)).toNatClampNeg) (xs (nI i + (2 : Int32)).toNatClampNeg) (xs (nI i + (3 : Int32)).toNatClampNeg) post xp hC (fun v P1 h => (hS v P1 h).1) (fun E P1 h => (hF E P1 h).elim (fun cd h => h.1.imp And.left (Or.imp And.left (Or.imp And.left And.left)))) f0) gch_L_works gm_L_118 gt_L_works gn_L (by decide +kernel) ⟨by decide, by decide⟩ hK hw rfl hl.1 rfl (Nat.le_of_ble_eq_true rfl) dd_L_law_614 ⟨Nat.le_trans (by dsimp only; omega) hcs.1, Nat.le_trans (by dsimp only; omega) hcs.2⟩) hw (fun E9 ce9 q9 P9 H locs hp hw hce hcv hcl => hp.elim) (fun v9 P9 H locs hp hw => ?_)
  rcases hp with ⟨hp, rfl⟩ | ⟨hp, rfl⟩ | ⟨hp, rfl⟩ | ⟨hp, rfl⟩ | ⟨hp, rfl⟩
  · skip
    obtain ⟨-, vs, mp, hv, hM, hE⟩ := hS _ _ hp
    refine W.eq (g2 := F0 m 617 ls [.int (0 : Int32)]) rfl ?_
    refine lv_istore (lv' := [(5, .int (0 : Int32)), (0, .ref b), (1, .ref h0), (2, .ref hm), (3, .ref ao), (4, .int (nI i))]) hx hb dd_L_law_617 hl (by decide) rfl (fun ls hl => ?_)
    refine lv_aload_n hx hb dd_L_law_619 rfl (lv_at hl 3 rfl) ?_
    refine lv_aload_n hx hb dd_L_law_620 rfl (lv_at hl 1 rfl) ?_
    refine lv_iload hx hb dd_L_law_621 (lv_at hl 5 rfl) ?_
    refine lv_iconst (v := 1) hx hb dd_L_law_623 (by decide) ?_
    refine lv_iadd hx hb dd_L_law_624 ?_
    refine va_sld hx hb hX hbl hbA hw.2.2 hv1 dd_L_law_625 ?_
    refine lv_aload_n hx hb dd_L_law_626 rfl (lv_at hl 1 rfl) ?_
    refine lv_iload hx hb dd_L_law_627 (lv_at hl 5 rfl) ?_
    refine lv_iconst (v := 2) hx hb dd_L_law_629 (by decide) ?_
    refine lv_iadd hx hb dd_L_law_630 ?_
    refine va_sld hx hb hX hbl hbA hw.2.2 hv2 dd_L_law_631 ?_
    refine lv_aload_n hx hb dd_L_law_632 rfl (lv_at hl 1 rfl) ?_
    refine lv_iload hx hb dd_L_law_633 (lv_at hl 5 rfl) ?_
    refine lv_iconst (v := 3) hx hb dd_L_law_635 (by decide) ?_
    refine lv_iadd hx hb dd_L_law_636 ?_
    refine va_sld hx hb hX hbl hbA hw.2.2 hv3 dd_L_law_637 ?_
    refine cx_after (cx_rV (n := 3) (As := [.int (xs (nI i + (1 : Int32)).toNatClampNeg), .int (xs (nI i + (2 : Int32)).toNatClampNeg), .int (xs (nI i + (3 : Int32)).toNatClampNeg)]) (rest := []) ⟨hx, hb, hml, hown, hg⟩ hM (cx_gv gm_L_121 gi_M_works gs_M_works gn_M gc_M_works) (by decide +kernel) ⟨by decide, by decide⟩ hK hw hv rfl rfl hl.1 rfl (Nat.le_of_ble_eq_true rfl) dd_L_law_638 ⟨Nat.le_trans (by dsimp only; omega) hcs.1, Nat.le_trans (by dsimp only; omega) hcs.2⟩) hw (fun v9 P3 H locs hp hw => ?_)
    obtain ⟨rfl, hI⟩ := hE _ _ hp
    refine W.eq (g2 := F0 m 641 ls []) rfl ?_
    refine lv_aload_n hx hb dd_L_law_641 rfl (lv_at hl 3 rfl) ?_
    obtain ⟨vs9, hv9, hM9⟩ := iv_thr (l := l) (z := z) (D := D) (sa := sa) hI
    refine cx_after (cx_rV (n := 0) (As := []) (rest := []) ⟨hx, hb, hml, hown, hg⟩ hM9 (cx_gv gm_L_90 gi_M_thrown gs_M_thrown gn_M gc_M_thrown) (by decide +kernel) ⟨by decide, by decide⟩ hK hw hv9 rfl rfl hl.1 rfl (Nat.le_of_ble_eq_true rfl) dd_L_law_642 ⟨Nat.le_trans (by dsimp only; omega) hcs.1, Nat.le_trans (by dsimp only; omega) hcs.2⟩) hw (fun v9 P9 H locs hp hw => ?_)
    obtain ⟨rfl, e9⟩ := hp
    rw [e9] at hw
    clear e9 P9
    refine W.eq (g2 := F0 m 645 ls [.int (0 : Int32)]) rfl ?_
    refine lv_iload hx hb dd_L_law_645 (lv_at hl 0 rfl) ?_
    refine lv_icmp_eq (tgt := 652) hx hb dd_L_law_647 (by decide) (fun c1 => ?_) (fun c1 => absurd (by decide) c1)
    refine lv_goto (tgt := 1454) hx hb dd_L_law_652 (by decide) ?_
    refine W.widen (k := cells + 16) (n := slots + 64) (by dsimp only; omega) (by dsimp only; omega) ?_
    exact kk P3 0 H _ ls hI hw (lv_sub hl [1, 2, 3, 4, 5] rfl)
  · skip
    obtain ⟨cd, hcd, vs, mp, hv, hM, hE⟩ := hF _ _ hp
    have hcd : cd = 1 := by
      rcases hcd with ⟨q, h⟩ | ⟨q, h⟩ | ⟨q, h⟩ | ⟨q, h⟩ <;> first | exact h | exact absurd q (by decide +kernel)
    subst hcd
    refine W.eq (g2 := F0 m 617 ls [.int (1 : Int32)]) rfl ?_
    refine lv_istore (lv' := [(5, .int (1 : Int32)), (0, .ref b), (1, .ref h0), (2, .ref hm), (3, .ref ao), (4, .int (nI i))]) hx hb dd_L_law_617 hl (by decide) rfl (fun ls hl => ?_)
    refine lv_aload_n hx hb dd_L_law_619 rfl (lv_at hl 3 rfl) ?_
    refine lv_aload_n hx hb dd_L_law_620 rfl (lv_at hl 1 rfl) ?_
    refine lv_iload hx hb dd_L_law_621 (lv_at hl 5 rfl) ?_
    refine lv_iconst (v := 1) hx hb dd_L_law_623 (by decide) ?_
    refine lv_iadd hx hb dd_L_law_624 ?_
    refine va_sld hx hb hX hbl hbA hw.2.2 hv1 dd_L_law_625 ?_
    refine lv_aload_n hx hb dd_L_law_626 rfl (lv_at hl 1 rfl) ?_
    refine lv_iload hx hb dd_L_law_627 (lv_at hl 5 rfl) ?_
    refine lv_iconst (v := 2) hx hb dd_L_law_629 (by decide) ?_
    refine lv_iadd hx hb dd_L_law_630 ?_
    refine va_sld hx hb hX hbl hbA hw.2.2 hv2 dd_L_law_631 ?_
    refine lv_aload_n hx hb dd_L_law_632 rfl (lv_at hl 1 rfl) ?_
    refine lv_iload hx hb dd_L_law_633 (lv_at hl 5 rfl) ?_
    refine lv_iconst (v := 3) hx hb dd_L_law_635 (by decide) ?_
    refine lv_iadd hx hb dd_L_law_636 ?_
    refine va_sld hx hb hX hbl hbA hw.2.2 hv3 dd_L_law_637 ?_
    refine cx_after (cx_rV (n := 3) (As := [.int (xs (nI i + (1 : Int32)).toNatClampNeg), .int (xs (nI i + (2 : Int32)).toNatClampNeg), .int (xs (nI i + (3 : Int32)).toNatClampNeg)]) (rest := []) ⟨hx, hb, hml, hown, hg⟩ hM (cx_gv gm_L_121 gi_M_works gs_M_works gn_M gc_M_works) (by decide +kernel) ⟨by decide, by decide⟩ hK hw hv rfl rfl hl.1 rfl (Nat.le_of_ble_eq_true rfl) dd_L_law_638 ⟨Nat.le_trans (by dsimp only; omega) hcs.1, Nat.le_trans (by dsimp only; omega) hcs.2⟩) hw (fun v9 P3 H locs hp hw => ?_)
    obtain ⟨rfl, hI⟩ := hE _ _ hp
    refine W.eq (g2 := F0 m 641 ls []) rfl ?_
    refine lv_aload_n hx hb dd_L_law_641 rfl (lv_at hl 3 rfl) ?_
    obtain ⟨vs9, hv9, hM9⟩ := iv_thr (l := l) (z := z) (D := D) (sa := sa) hI
    refine cx_after (cx_rV (n := 0) (As := []) (rest := []) ⟨hx, hb, hml, hown, hg⟩ hM9 (cx_gv gm_L_90 gi_M_thrown gs_M_thrown gn_M gc_M_thrown) (by decide +kernel) ⟨by decide, by decide⟩ hK hw hv9 rfl rfl hl.1 rfl (Nat.le_of_ble_eq_true rfl) dd_L_law_642 ⟨Nat.le_trans (by dsimp only; omega) hcs.1, Nat.le_trans (by dsimp only; omega) hcs.2⟩) hw (fun v9 P9 H locs hp hw => ?_)
    obtain ⟨rfl, e9⟩ := hp
    rw [e9] at hw
    clear e9 P9
    refine W.eq (g2 := F0 m 645 ls [.int (1 : Int32)]) rfl ?_
    refine lv_iload hx hb dd_L_law_645 (lv_at hl 0 rfl) ?_
    refine lv_icmp_eq (tgt := 652) hx hb dd_L_law_647 (by decide) (fun c2 => ?_) (fun c2 => absurd (by decide) c2)
    refine lv_goto (tgt := 1454) hx hb dd_L_law_652 (by decide) ?_
    refine W.widen (k := cells + 16) (n := slots + 64) (by dsimp only; omega) (by dsimp only; omega) ?_
    exact kk P3 1 H _ ls hI hw (lv_sub hl [1, 2, 3, 4, 5] rfl)
  · skip
    obtain ⟨cd, hcd, vs, mp, hv, hM, hE⟩ := hF _ _ hp
    have hcd : cd = 2 := by
      rcases hcd with ⟨q, h⟩ | ⟨q, h⟩ | ⟨q, h⟩ | ⟨q, h⟩ <;> first | exact h | exact absurd q (by decide +kernel)
    subst hcd
    refine W.eq (g2 := F0 m 617 ls [.int (2 : Int32)]) rfl ?_
    refine lv_istore (lv' := [(5, .int (2 : Int32)), (0, .ref b), (1, .ref h0), (2, .ref hm), (3, .ref ao), (4, .int (nI i))]) hx hb dd_L_law_617 hl (by decide) rfl (fun ls hl => ?_)
    refine lv_aload_n hx hb dd_L_law_619 rfl (lv_at hl 3 rfl) ?_
    refine lv_aload_n hx hb dd_L_law_620 rfl (lv_at hl 1 rfl) ?_
    refine lv_iload hx hb dd_L_law_621 (lv_at hl 5 rfl) ?_
    refine lv_iconst (v := 1) hx hb dd_L_law_623 (by decide) ?_
    refine lv_iadd hx hb dd_L_law_624 ?_
    refine va_sld hx hb hX hbl hbA hw.2.2 hv1 dd_L_law_625 ?_
    refine lv_aload_n hx hb dd_L_law_626 rfl (lv_at hl 1 rfl) ?_
    refine lv_iload hx hb dd_L_law_627 (lv_at hl 5 rfl) ?_
    refine lv_iconst (v := 2) hx hb dd_L_law_629 (by decide) ?_
    refine lv_iadd hx hb dd_L_law_630 ?_
    refine va_sld hx hb hX hbl hbA hw.2.2 hv2 dd_L_law_631 ?_
    refine lv_aload_n hx hb dd_L_law_632 rfl (lv_at hl 1 rfl) ?_
    refine lv_iload hx hb dd_L_law_633 (lv_at hl 5 rfl) ?_
    refine lv_iconst (v := 3) hx hb dd_L_law_635 (by decide) ?_
    refine lv_iadd hx hb dd_L_law_636 ?_
    refine va_sld hx hb hX hbl hbA hw.2.2 hv3 dd_L_law_637 ?_
    refine cx_after (cx_rV (n := 3) (As := [.int (xs (nI i + (1 : Int32)).toNatClampNeg), .int (xs (nI i + (2 : Int32)).toNatClampNeg), .int (xs (nI i + (3 : Int32)).toNatClampNeg)]) (rest := []) ⟨hx, hb, hml, hown, hg⟩ hM (cx_gv gm_L_121 gi_M_works gs_M_works gn_M gc_M_works) (by decide +kernel) ⟨by decide, by decide⟩ hK hw hv rfl rfl hl.1 rfl (Nat.le_of_ble_eq_true rfl) dd_L_law_638 ⟨Nat.le_trans (by dsimp only; omega) hcs.1, Nat.le_trans (by dsimp only; omega) hcs.2⟩) hw (fun v9 P3 H locs hp hw => ?_)
    obtain ⟨rfl, hI⟩ := hE _ _ hp
    refine W.eq (g2 := F0 m 641 ls []) rfl ?_
    refine lv_aload_n hx hb dd_L_law_641 rfl (lv_at hl 3 rfl) ?_
    obtain ⟨vs9, hv9, hM9⟩ := iv_thr (l := l) (z := z) (D := D) (sa := sa) hI
    refine cx_after (cx_rV (n := 0) (As := []) (rest := []) ⟨hx, hb, hml, hown, hg⟩ hM9 (cx_gv gm_L_90 gi_M_thrown gs_M_thrown gn_M gc_M_thrown) (by decide +kernel) ⟨by decide, by decide⟩ hK hw hv9 rfl rfl hl.1 rfl (Nat.le_of_ble_eq_true rfl) dd_L_law_642 ⟨Nat.le_trans (by dsimp only; omega) hcs.1, Nat.le_trans (by dsimp only; omega) hcs.2⟩) hw (fun v9 P9 H locs hp hw => ?_)
    obtain ⟨rfl, e9⟩ := hp
    rw [e9] at hw
    clear e9 P9
    refine W.eq (g2 := F0 m 645 ls [.int (2 : Int32)]) rfl ?_
    refine lv_iload hx hb dd_L_law_645 (lv_at hl 0 rfl) ?_
    refine lv_icmp_eq (tgt := 652) hx hb dd_L_law_647 (by decide) (fun c3 => ?_) (fun c3 => absurd (by decide) c3)
    refine lv_goto (tgt := 1454) hx hb dd_L_law_652 (by decide) ?_
    refine W.widen (k := cells + 16) (n := slots + 64) (by dsimp only; omega) (by dsimp only; omega) ?_
    exact kk P3 2 H _ ls hI hw (lv_sub hl [1, 2, 3, 4, 5] rfl)
  · skip
    obtain ⟨cd, hcd, vs, mp, hv, hM, hE⟩ := hF _ _ hp
    have hcd : cd = 3 := by
      rcases hcd with ⟨q, h⟩ | ⟨q, h⟩ | ⟨q, h⟩ | ⟨q, h⟩ <;> first | exact h | exact absurd q (by decide +kernel)
    subst hcd
    refine W.eq (g2 := F0 m 617 ls [.int (3 : Int32)]) rfl ?_
    refine lv_istore (lv' := [(5, .int (3 : Int32)), (0, .ref b), (1, .ref h0), (2, .ref hm), (3, .ref ao), (4, .int (nI i))]) hx hb dd_L_law_617 hl (by decide) rfl (fun ls hl => ?_)
    refine lv_aload_n hx hb dd_L_law_619 rfl (lv_at hl 3 rfl) ?_
    refine lv_aload_n hx hb dd_L_law_620 rfl (lv_at hl 1 rfl) ?_
    refine lv_iload hx hb dd_L_law_621 (lv_at hl 5 rfl) ?_
    refine lv_iconst (v := 1) hx hb dd_L_law_623 (by decide) ?_
    refine lv_iadd hx hb dd_L_law_624 ?_
    refine va_sld hx hb hX hbl hbA hw.2.2 hv1 dd_L_law_625 ?_
    refine lv_aload_n hx hb dd_L_law_626 rfl (lv_at hl 1 rfl) ?_
    refine lv_iload hx hb dd_L_law_627 (lv_at hl 5 rfl) ?_
    refine lv_iconst (v := 2) hx hb dd_L_law_629 (by decide) ?_
    refine lv_iadd hx hb dd_L_law_630 ?_
    refine va_sld hx hb hX hbl hbA hw.2.2 hv2 dd_L_law_631 ?_
    refine lv_aload_n hx hb dd_L_law_632 rfl (lv_at hl 1 rfl) ?_
    refine lv_iload hx hb dd_L_law_633 (lv_at hl 5 rfl) ?_
    refine lv_iconst (v := 3) hx hb dd_L_law_635 (by decide) ?_
    refine lv_iadd hx hb dd_L_law_636 ?_
    refine va_sld hx hb hX hbl hbA hw.2.2 hv3 dd_L_law_637 ?_
    refine cx_after (cx_rV (n := 3) (As := [.int (xs (nI i + (1 : Int32)).toNatClampNeg), .int (xs (nI i + (2 : Int32)).toNatClampNeg), .int (xs (nI i + (3 : Int32)).toNatClampNeg)]) (rest := []) ⟨hx, hb, hml, hown, hg⟩ hM (cx_gv gm_L_121 gi_M_works gs_M_works gn_M gc_M_works) (by decide +kernel) ⟨by decide, by decide⟩ hK hw hv rfl rfl hl.1 rfl (Nat.le_of_ble_eq_true rfl) dd_L_law_638 ⟨Nat.le_trans (by dsimp only; omega) hcs.1, Nat.le_trans (by dsimp only; omega) hcs.2⟩) hw (fun v9 P3 H locs hp hw => ?_)
    obtain ⟨rfl, hI⟩ := hE _ _ hp
    refine W.eq (g2 := F0 m 641 ls []) rfl ?_
    refine lv_aload_n hx hb dd_L_law_641 rfl (lv_at hl 3 rfl) ?_
    obtain ⟨vs9, hv9, hM9⟩ := iv_thr (l := l) (z := z) (D := D) (sa := sa) hI
    refine cx_after (cx_rV (n := 0) (As := []) (rest := []) ⟨hx, hb, hml, hown, hg⟩ hM9 (cx_gv gm_L_90 gi_M_thrown gs_M_thrown gn_M gc_M_thrown) (by decide +kernel) ⟨by decide, by decide⟩ hK hw hv9 rfl rfl hl.1 rfl (Nat.le_of_ble_eq_true rfl) dd_L_law_642 ⟨Nat.le_trans (by dsimp only; omega) hcs.1, Nat.le_trans (by dsimp only; omega) hcs.2⟩) hw (fun v9 P9 H locs hp hw => ?_)
    obtain ⟨rfl, e9⟩ := hp
    rw [e9] at hw
    clear e9 P9
    refine W.eq (g2 := F0 m 645 ls [.int (3 : Int32)]) rfl ?_
    refine lv_iload hx hb dd_L_law_645 (lv_at hl 0 rfl) ?_
    refine lv_icmp_eq (tgt := 652) hx hb dd_L_law_647 (by decide) (fun c4 => ?_) (fun c4 => absurd (by decide) c4)
    refine lv_goto (tgt := 1454) hx hb dd_L_law_652 (by decide) ?_
    refine W.widen (k := cells + 16) (n := slots + 64) (by dsimp only; omega) (by dsimp only; omega) ?_
    exact kk P3 3 H _ ls hI hw (lv_sub hl [1, 2, 3, 4, 5] rfl)
  · skip
    obtain ⟨cd, hcd, vs, mp, hv, hM, hE⟩ := hF _ _ hp
    have hcd : cd = 4 := by
      rcases hcd with ⟨q, h⟩ | ⟨q, h⟩ | ⟨q, h⟩ | ⟨q, h⟩ <;> first | exact h | exact absurd q (by decide +kernel)
    subst hcd
    refine W.eq (g2 := F0 m 617 ls [.int (4 : Int32)]) rfl ?_
    refine lv_istore (lv' := [(5, .int (4 : Int32)), (0, .ref b), (1, .ref h0), (2, .ref hm), (3, .ref ao), (4, .int (nI i))]) hx hb dd_L_law_617 hl (by decide) rfl (fun ls hl => ?_)
    refine lv_aload_n hx hb dd_L_law_619 rfl (lv_at hl 3 rfl) ?_
    refine lv_aload_n hx hb dd_L_law_620 rfl (lv_at hl 1 rfl) ?_
    refine lv_iload hx hb dd_L_law_621 (lv_at hl 5 rfl) ?_
    refine lv_iconst (v := 1) hx hb dd_L_law_623 (by decide) ?_
    refine lv_iadd hx hb dd_L_law_624 ?_
    refine va_sld hx hb hX hbl hbA hw.2.2 hv1 dd_L_law_625 ?_
    refine lv_aload_n hx hb dd_L_law_626 rfl (lv_at hl 1 rfl) ?_
    refine lv_iload hx hb dd_L_law_627 (lv_at hl 5 rfl) ?_
    refine lv_iconst (v := 2) hx hb dd_L_law_629 (by decide) ?_
    refine lv_iadd hx hb dd_L_law_630 ?_
    refine va_sld hx hb hX hbl hbA hw.2.2 hv2 dd_L_law_631 ?_
    refine lv_aload_n hx hb dd_L_law_632 rfl (lv_at hl 1 rfl) ?_
    refine lv_iload hx hb dd_L_law_633 (lv_at hl 5 rfl) ?_
    refine lv_iconst (v := 3) hx hb dd_L_law_635 (by decide) ?_
    refine lv_iadd hx hb dd_L_law_636 ?_
    refine va_sld hx hb hX hbl hbA hw.2.2 hv3 dd_L_law_637 ?_
    refine cx_after (cx_rV (n := 3) (As := [.int (xs (nI i + (1 : Int32)).toNatClampNeg), .int (xs (nI i + (2 : Int32)).toNatClampNeg), .int (xs (nI i + (3 : Int32)).toNatClampNeg)]) (rest := []) ⟨hx, hb, hml, hown, hg⟩ hM (cx_gv gm_L_121 gi_M_works gs_M_works gn_M gc_M_works) (by decide +kernel) ⟨by decide, by decide⟩ hK hw hv rfl rfl hl.1 rfl (Nat.le_of_ble_eq_true rfl) dd_L_law_638 ⟨Nat.le_trans (by dsimp only; omega) hcs.1, Nat.le_trans (by dsimp only; omega) hcs.2⟩) hw (fun v9 P3 H locs hp hw => ?_)
    obtain ⟨rfl, hI⟩ := hE _ _ hp
    refine W.eq (g2 := F0 m 641 ls []) rfl ?_
    refine lv_aload_n hx hb dd_L_law_641 rfl (lv_at hl 3 rfl) ?_
    obtain ⟨vs9, hv9, hM9⟩ := iv_thr (l := l) (z := z) (D := D) (sa := sa) hI
    refine cx_after (cx_rV (n := 0) (As := []) (rest := []) ⟨hx, hb, hml, hown, hg⟩ hM9 (cx_gv gm_L_90 gi_M_thrown gs_M_thrown gn_M gc_M_thrown) (by decide +kernel) ⟨by decide, by decide⟩ hK hw hv9 rfl rfl hl.1 rfl (Nat.le_of_ble_eq_true rfl) dd_L_law_642 ⟨Nat.le_trans (by dsimp only; omega) hcs.1, Nat.le_trans (by dsimp only; omega) hcs.2⟩) hw (fun v9 P9 H locs hp hw => ?_)
    obtain ⟨rfl, e9⟩ := hp
    rw [e9] at hw
    clear e9 P9
    refine W.eq (g2 := F0 m 645 ls [.int (4 : Int32)]) rfl ?_
    refine lv_iload hx hb dd_L_law_645 (lv_at hl 0 rfl) ?_
    refine lv_icmp_eq (tgt := 652) hx hb dd_L_law_647 (by decide) (fun c5 => ?_) (fun c5 => absurd (by decide) c5)
    refine lv_goto (tgt := 1454) hx hb dd_L_law_652 (by decide) ?_
    refine W.widen (k := cells + 16) (n := slots + 64) (by dsimp only; omega) (by dsimp only; omega) ?_
    exact kk P3 4 H _ ls hI hw (lv_sub hl [1, 2, 3, 4, 5] rfl)

set_option maxHeartbeats 4000000 in
set_option maxRecDepth 100000 in
theorem lw_c8 {p : Program} {l : Launch} {e : Env} {s : State} {m : MethodId} {below : List Frame} {meth : Method} {c : Code} {b L : Nat} {xs : Nat → Int32} {z : Nat} {D : va_G} {ac : Nat → ClassId} {sa : Nat → Nat} {Q : State → Prop} (hT : l.stackTraces = false) (hL : L ≤ 3072) (C0 : lw_B p s m c b L xs z D ac sa) {i : Nat} (hi : i + 6 ≤ L) {h0 hm ao : Nat} {P : pm_T} {th : Int32} {H : Heap} {locs : List Loc} {ls : Array Slot} {cells slots : Nat} (hcs : cells + 16 ≤ room_1.cells ∧ slots + 64 ≤ room_1.slots) (hI : iv_I P ac h0 hm ao th) (hw : pm_W z D cl_w P s.heap H locs) (hl : lv_has ls 7 [(0, .ref b), (1, .ref h0), (2, .ref hm), (3, .ref ao), (4, .int (nI i))]) (kk : ∀ (P : pm_T) (th : Int32) (H : Heap) (locs : List Loc) (ls : Array Slot), iv_I P ac h0 hm ao th → pm_W z D cl_w P s.heap H locs → lv_has ls 7 [(0, .ref b), (1, .ref h0), (2, .ref hm), (3, .ref ao), (4, .int (nI i))] → W p l e room_1 s m #[Value.ref b] below meth c H locs (cells + 16) (slots + 64) Q (F0 m 1454 ls [])) : W p l e room_1 s m #[Value.ref b] below meth c H locs cells slots Q (F0 m 655 ls []) := by
  obtain ⟨hx, hb, hml, hown, hg, hX, hbl, hbA, hK⟩ := C0
  have hv1 : vp_in (nI i + (1 : Int32)) L := lw_in (k := 1) rfl hL (by omega)
  have hv2 : vp_in (nI i + (2 : Int32)) L := lw_in (k := 2) rfl hL (by omega)
  have hv3 : vp_in (nI i + (3 : Int32)) L := lw_in (k := 3) rfl hL (by omega)
  have hv4 : vp_in (nI i + (4 : Int32)) L := lw_in (k := 4) rfl hL (by omega)
  have hv5 : vp_in (nI i + (5 : Int32)) L := lw_in (k := 5) rfl hL (by omega)
  refine lv_aload_n hx hb dd_L_law_655 rfl (lv_at hl 1 rfl) ?_
  refine lv_aload_n hx hb dd_L_law_656 rfl (lv_at hl 0 rfl) ?_
  refine lv_iload hx hb dd_L_law_657 (lv_at hl 4 rfl) ?_
  refine lv_iconst (v := 1) hx hb dd_L_law_659 (by decide) ?_
  refine lv_iadd hx hb dd_L_law_660 ?_
  refine va_sld hx hb hX hbl hbA hw.2.2 hv1 dd_L_law_661 ?_
  refine lv_aload_n hx hb dd_L_law_662 rfl (lv_at hl 0 rfl) ?_
  refine lv_iload hx hb dd_L_law_663 (lv_at hl 4 rfl) ?_
  refine lv_iconst (v := 2) hx hb dd_L_law_665 (by decide) ?_
  refine lv_iadd hx hb dd_L_law_666 ?_
  refine va_sld hx hb hX hbl hbA hw.2.2 hv2 dd_L_law_667 ?_
  refine lv_aload_n hx hb dd_L_law_668 rfl (lv_at hl 0 rfl) ?_
  refine lv_iload hx hb dd_L_law_669 (lv_at hl 4 rfl) ?_
  refine lv_iconst (v := 3) hx hb dd_L_law_671 (by decide) ?_
  refine lv_iadd hx hb dd_L_law_672 ?_
  refine va_sld hx hb hX hbl hbA hw.2.2 hv3 dd_L_law_673 ?_
  refine lv_if_eq (tgt := 681) hx hb dd_L_law_674 (by decide) (fun c1 => ?_) (fun c1 => ?_)
  · skip
    refine lv_iconst (v := 0) hx hb dd_L_law_681 (by decide) ?_
    obtain ⟨fs, post, xp, f0, hC, hS, hF⟩ := st_season l hT z D ac sa P h0 hm ao th (xs (nI i + (1 : Int32)).toNatClampNeg) (xs (nI i + (2 : Int32)).toNatClampNeg) (0 : Int32) (.inl rfl) hI
    refine cx_afterX (cx_rSH (n := 4) (As := [.ref h0, .int (xs (nI i + (1 : Int32)).toNatClampNeg), .int (xs (nI i + (2 : Int32)).toNatClampNeg), .int (0 : Int32)]) (rest := []) ⟨hx, hb, hml, hown, hg⟩ (w_season l z D ac sa P h0 fs (xs (nI i + (1 : Int32)).toNatClampNeg) (xs (nI i + (2 : Int32)).toNatClampNeg) (0 : Int32) post xp hC (fun v P1 h => (hS v P1 h).1) (fun E P1 h => (hF E P1 h).elim (fun cd h => h.1.imp And.left (Or.imp And.left And.left))) f0) gch_L_season gm_L_122 gt_L_season gn_L (by decide +kernel) ⟨by decide, by decide⟩ hK hw rfl hl.1 rfl (Nat.le_of_ble_eq_true rfl) dd_L_law_682 ⟨Nat.le_trans (by dsimp only; omega) hcs.1, Nat.le_trans (by dsimp only; omega) hcs.2⟩) hw (fun E9 ce9 q9 P9 H locs hp hw hce hcv hcl => hp.elim) (fun v9 P9 H locs hp hw => ?_)
    rcases hp with ⟨hp, rfl⟩ | ⟨hp, rfl⟩ | ⟨hp, rfl⟩ | ⟨hp, rfl⟩
    · skip
      obtain ⟨-, vs, mp, hv, hM, hE⟩ := hS _ _ hp
      refine W.eq (g2 := F0 m 685 ls [.int (0 : Int32)]) rfl ?_
      refine lv_istore (lv' := [(5, .int (0 : Int32)), (0, .ref b), (1, .ref h0), (2, .ref hm), (3, .ref ao), (4, .int (nI i))]) hx hb dd_L_law_685 hl (by decide) rfl (fun ls hl => ?_)
      refine lv_aload_n hx hb dd_L_law_687 rfl (lv_at hl 3 rfl) ?_
      refine lv_aload_n hx hb dd_L_law_688 rfl (lv_at hl 1 rfl) ?_
      refine lv_iload hx hb dd_L_law_689 (lv_at hl 5 rfl) ?_
      refine lv_iconst (v := 1) hx hb dd_L_law_691 (by decide) ?_
      refine lv_iadd hx hb dd_L_law_692 ?_
      refine va_sld hx hb hX hbl hbA hw.2.2 hv1 dd_L_law_693 ?_
      refine lv_aload_n hx hb dd_L_law_694 rfl (lv_at hl 1 rfl) ?_
      refine lv_iload hx hb dd_L_law_695 (lv_at hl 5 rfl) ?_
      refine lv_iconst (v := 2) hx hb dd_L_law_697 (by decide) ?_
      refine lv_iadd hx hb dd_L_law_698 ?_
      refine va_sld hx hb hX hbl hbA hw.2.2 hv2 dd_L_law_699 ?_
      refine lv_aload_n hx hb dd_L_law_700 rfl (lv_at hl 1 rfl) ?_
      refine lv_iload hx hb dd_L_law_701 (lv_at hl 5 rfl) ?_
      refine lv_iconst (v := 3) hx hb dd_L_law_703 (by decide) ?_
      refine lv_iadd hx hb dd_L_law_704 ?_
      refine va_sld hx hb hX hbl hbA hw.2.2 hv3 dd_L_law_705 ?_
      refine lv_if_eq (tgt := 713) hx hb dd_L_law_706 (by decide) (fun c2 => ?_) (fun c2 => absurd c1 c2)
      refine lv_iconst (v := 0) hx hb dd_L_law_713 (by decide) ?_
      refine cx_after (cx_rV (n := 3) (As := [.int (xs (nI i + (1 : Int32)).toNatClampNeg), .int (xs (nI i + (2 : Int32)).toNatClampNeg), .int (0 : Int32)]) (rest := []) ⟨hx, hb, hml, hown, hg⟩ hM (cx_gv gm_L_125 gi_M_season gs_M_season gn_M gc_M_season) (by decide +kernel) ⟨by decide, by decide⟩ hK hw hv rfl rfl hl.1 rfl (Nat.le_of_ble_eq_true rfl) dd_L_law_714 ⟨Nat.le_trans (by dsimp only; omega) hcs.1, Nat.le_trans (by dsimp only; omega) hcs.2⟩) hw (fun v9 P3 H locs hp hw => ?_)
      obtain ⟨rfl, hI⟩ := hE _ _ hp
      refine W.eq (g2 := F0 m 717 ls []) rfl ?_
      refine lv_aload_n hx hb dd_L_law_717 rfl (lv_at hl 3 rfl) ?_
      obtain ⟨vs9, hv9, hM9⟩ := iv_thr (l := l) (z := z) (D := D) (sa := sa) hI
      refine cx_after (cx_rV (n := 0) (As := []) (rest := []) ⟨hx, hb, hml, hown, hg⟩ hM9 (cx_gv gm_L_90 gi_M_thrown gs_M_thrown gn_M gc_M_thrown) (by decide +kernel) ⟨by decide, by decide⟩ hK hw hv9 rfl rfl hl.1 rfl (Nat.le_of_ble_eq_true rfl) dd_L_law_718 ⟨Nat.le_trans (by dsimp only; omega) hcs.1, Nat.le_trans (by dsimp only; omega) hcs.2⟩) hw (fun v9 P9 H locs hp hw => ?_)
      obtain ⟨rfl, e9⟩ := hp
      rw [e9] at hw
      clear e9 P9
      refine W.eq (g2 := F0 m 721 ls [.int (0 : Int32)]) rfl ?_
      refine lv_iload hx hb dd_L_law_721 (lv_at hl 0 rfl) ?_
      refine lv_icmp_eq (tgt := 728) hx hb dd_L_law_723 (by decide) (fun c3 => ?_) (fun c3 => absurd (by decide) c3)
      refine lv_goto (tgt := 1454) hx hb dd_L_law_728 (by decide) ?_
      refine W.widen (k := cells + 16) (n := slots + 64) (by dsimp only; omega) (by dsimp only; omega) ?_
      exact kk P3 0 H _ ls hI hw (lv_sub hl [1, 2, 3, 4, 5] rfl)
    · skip
      obtain ⟨cd, hcd, vs, mp, hv, hM, hE⟩ := hF _ _ hp
      have hcd : cd = 1 := by
        rcases hcd with ⟨q, h⟩ | ⟨q, h⟩ | ⟨q, h⟩ <;> first | exact h | exact absurd q (by decide +kernel)
      subst hcd
      refine W.eq (g2 := F0 m 685 ls [.int (1 : Int32)]) rfl ?_
      refine lv_istore (lv' := [(5, .int (1 : Int32)), (0, .ref b), (1, .ref h0), (2, .ref hm), (3, .ref ao), (4, .int (nI i))]) hx hb dd_L_law_685 hl (by decide) rfl (fun ls hl => ?_)
      refine lv_aload_n hx hb dd_L_law_687 rfl (lv_at hl 3 rfl) ?_
      refine lv_aload_n hx hb dd_L_law_688 rfl (lv_at hl 1 rfl) ?_
      refine lv_iload hx hb dd_L_law_689 (lv_at hl 5 rfl) ?_
      refine lv_iconst (v := 1) hx hb dd_L_law_691 (by decide) ?_
      refine lv_iadd hx hb dd_L_law_692 ?_
      refine va_sld hx hb hX hbl hbA hw.2.2 hv1 dd_L_law_693 ?_
      refine lv_aload_n hx hb dd_L_law_694 rfl (lv_at hl 1 rfl) ?_
      refine lv_iload hx hb dd_L_law_695 (lv_at hl 5 rfl) ?_
      refine lv_iconst (v := 2) hx hb dd_L_law_697 (by decide) ?_
      refine lv_iadd hx hb dd_L_law_698 ?_
      refine va_sld hx hb hX hbl hbA hw.2.2 hv2 dd_L_law_699 ?_
      refine lv_aload_n hx hb dd_L_law_700 rfl (lv_at hl 1 rfl) ?_
      refine lv_iload hx hb dd_L_law_701 (lv_at hl 5 rfl) ?_
      refine lv_iconst (v := 3) hx hb dd_L_law_703 (by decide) ?_
      refine lv_iadd hx hb dd_L_law_704 ?_
      refine va_sld hx hb hX hbl hbA hw.2.2 hv3 dd_L_law_705 ?_
      refine lv_if_eq (tgt := 713) hx hb dd_L_law_706 (by decide) (fun c4 => ?_) (fun c4 => absurd c1 c4)
      refine lv_iconst (v := 0) hx hb dd_L_law_713 (by decide) ?_
      refine cx_after (cx_rV (n := 3) (As := [.int (xs (nI i + (1 : Int32)).toNatClampNeg), .int (xs (nI i + (2 : Int32)).toNatClampNeg), .int (0 : Int32)]) (rest := []) ⟨hx, hb, hml, hown, hg⟩ hM (cx_gv gm_L_125 gi_M_season gs_M_season gn_M gc_M_season) (by decide +kernel) ⟨by decide, by decide⟩ hK hw hv rfl rfl hl.1 rfl (Nat.le_of_ble_eq_true rfl) dd_L_law_714 ⟨Nat.le_trans (by dsimp only; omega) hcs.1, Nat.le_trans (by dsimp only; omega) hcs.2⟩) hw (fun v9 P3 H locs hp hw => ?_)
      obtain ⟨rfl, hI⟩ := hE _ _ hp
      refine W.eq (g2 := F0 m 717 ls []) rfl ?_
      refine lv_aload_n hx hb dd_L_law_717 rfl (lv_at hl 3 rfl) ?_
      obtain ⟨vs9, hv9, hM9⟩ := iv_thr (l := l) (z := z) (D := D) (sa := sa) hI
      refine cx_after (cx_rV (n := 0) (As := []) (rest := []) ⟨hx, hb, hml, hown, hg⟩ hM9 (cx_gv gm_L_90 gi_M_thrown gs_M_thrown gn_M gc_M_thrown) (by decide +kernel) ⟨by decide, by decide⟩ hK hw hv9 rfl rfl hl.1 rfl (Nat.le_of_ble_eq_true rfl) dd_L_law_718 ⟨Nat.le_trans (by dsimp only; omega) hcs.1, Nat.le_trans (by dsimp only; omega) hcs.2⟩) hw (fun v9 P9 H locs hp hw => ?_)
      obtain ⟨rfl, e9⟩ := hp
      rw [e9] at hw
      clear e9 P9
      refine W.eq (g2 := F0 m 721 ls [.int (1 : Int32)]) rfl ?_
      refine lv_iload hx hb dd_L_law_721 (lv_at hl 0 rfl) ?_
      refine lv_icmp_eq (tgt := 728) hx hb dd_L_law_723 (by decide) (fun c5 => ?_) (fun c5 => absurd (by decide) c5)
      refine lv_goto (tgt := 1454) hx hb dd_L_law_728 (by decide) ?_
      refine W.widen (k := cells + 16) (n := slots + 64) (by dsimp only; omega) (by dsimp only; omega) ?_
      exact kk P3 1 H _ ls hI hw (lv_sub hl [1, 2, 3, 4, 5] rfl)
    · skip
      obtain ⟨cd, hcd, vs, mp, hv, hM, hE⟩ := hF _ _ hp
      have hcd : cd = 2 := by
        rcases hcd with ⟨q, h⟩ | ⟨q, h⟩ | ⟨q, h⟩ <;> first | exact h | exact absurd q (by decide +kernel)
      subst hcd
      refine W.eq (g2 := F0 m 685 ls [.int (2 : Int32)]) rfl ?_
      refine lv_istore (lv' := [(5, .int (2 : Int32)), (0, .ref b), (1, .ref h0), (2, .ref hm), (3, .ref ao), (4, .int (nI i))]) hx hb dd_L_law_685 hl (by decide) rfl (fun ls hl => ?_)
      refine lv_aload_n hx hb dd_L_law_687 rfl (lv_at hl 3 rfl) ?_
      refine lv_aload_n hx hb dd_L_law_688 rfl (lv_at hl 1 rfl) ?_
      refine lv_iload hx hb dd_L_law_689 (lv_at hl 5 rfl) ?_
      refine lv_iconst (v := 1) hx hb dd_L_law_691 (by decide) ?_
      refine lv_iadd hx hb dd_L_law_692 ?_
      refine va_sld hx hb hX hbl hbA hw.2.2 hv1 dd_L_law_693 ?_
      refine lv_aload_n hx hb dd_L_law_694 rfl (lv_at hl 1 rfl) ?_
      refine lv_iload hx hb dd_L_law_695 (lv_at hl 5 rfl) ?_
      refine lv_iconst (v := 2) hx hb dd_L_law_697 (by decide) ?_
      refine lv_iadd hx hb dd_L_law_698 ?_
      refine va_sld hx hb hX hbl hbA hw.2.2 hv2 dd_L_law_699 ?_
      refine lv_aload_n hx hb dd_L_law_700 rfl (lv_at hl 1 rfl) ?_
      refine lv_iload hx hb dd_L_law_701 (lv_at hl 5 rfl) ?_
      refine lv_iconst (v := 3) hx hb dd_L_law_703 (by decide) ?_
      refine lv_iadd hx hb dd_L_law_704 ?_
      refine va_sld hx hb hX hbl hbA hw.2.2 hv3 dd_L_law_705 ?_
      refine lv_if_eq (tgt := 713) hx hb dd_L_law_706 (by decide) (fun c6 => ?_) (fun c6 => absurd c1 c6)
      refine lv_iconst (v := 0) hx hb dd_L_law_713 (by decide) ?_
      refine cx_after (cx_rV (n := 3) (As := [.int (xs (nI i + (1 : Int32)).toNatClampNeg), .int (xs (nI i + (2 : Int32)).toNatClampNeg), .int (0 : Int32)]) (rest := []) ⟨hx, hb, hml, hown, hg⟩ hM (cx_gv gm_L_125 gi_M_season gs_M_season gn_M gc_M_season) (by decide +kernel) ⟨by decide, by decide⟩ hK hw hv rfl rfl hl.1 rfl (Nat.le_of_ble_eq_true rfl) dd_L_law_714 ⟨Nat.le_trans (by dsimp only; omega) hcs.1, Nat.le_trans (by dsimp only; omega) hcs.2⟩) hw (fun v9 P3 H locs hp hw => ?_)
      obtain ⟨rfl, hI⟩ := hE _ _ hp
      refine W.eq (g2 := F0 m 717 ls []) rfl ?_
      refine lv_aload_n hx hb dd_L_law_717 rfl (lv_at hl 3 rfl) ?_
      obtain ⟨vs9, hv9, hM9⟩ := iv_thr (l := l) (z := z) (D := D) (sa := sa) hI
      refine cx_after (cx_rV (n := 0) (As := []) (rest := []) ⟨hx, hb, hml, hown, hg⟩ hM9 (cx_gv gm_L_90 gi_M_thrown gs_M_thrown gn_M gc_M_thrown) (by decide +kernel) ⟨by decide, by decide⟩ hK hw hv9 rfl rfl hl.1 rfl (Nat.le_of_ble_eq_true rfl) dd_L_law_718 ⟨Nat.le_trans (by dsimp only; omega) hcs.1, Nat.le_trans (by dsimp only; omega) hcs.2⟩) hw (fun v9 P9 H locs hp hw => ?_)
      obtain ⟨rfl, e9⟩ := hp
      rw [e9] at hw
      clear e9 P9
      refine W.eq (g2 := F0 m 721 ls [.int (2 : Int32)]) rfl ?_
      refine lv_iload hx hb dd_L_law_721 (lv_at hl 0 rfl) ?_
      refine lv_icmp_eq (tgt := 728) hx hb dd_L_law_723 (by decide) (fun c7 => ?_) (fun c7 => absurd (by decide) c7)
      refine lv_goto (tgt := 1454) hx hb dd_L_law_728 (by decide) ?_
      refine W.widen (k := cells + 16) (n := slots + 64) (by dsimp only; omega) (by dsimp only; omega) ?_
      exact kk P3 2 H _ ls hI hw (lv_sub hl [1, 2, 3, 4, 5] rfl)
    · skip
      obtain ⟨cd, hcd, vs, mp, hv, hM, hE⟩ := hF _ _ hp
      have hcd : cd = 3 := by
        rcases hcd with ⟨q, h⟩ | ⟨q, h⟩ | ⟨q, h⟩ <;> first | exact h | exact absurd q (by decide +kernel)
      subst hcd
      refine W.eq (g2 := F0 m 685 ls [.int (3 : Int32)]) rfl ?_
      refine lv_istore (lv' := [(5, .int (3 : Int32)), (0, .ref b), (1, .ref h0), (2, .ref hm), (3, .ref ao), (4, .int (nI i))]) hx hb dd_L_law_685 hl (by decide) rfl (fun ls hl => ?_)
      refine lv_aload_n hx hb dd_L_law_687 rfl (lv_at hl 3 rfl) ?_
      refine lv_aload_n hx hb dd_L_law_688 rfl (lv_at hl 1 rfl) ?_
      refine lv_iload hx hb dd_L_law_689 (lv_at hl 5 rfl) ?_
      refine lv_iconst (v := 1) hx hb dd_L_law_691 (by decide) ?_
      refine lv_iadd hx hb dd_L_law_692 ?_
      refine va_sld hx hb hX hbl hbA hw.2.2 hv1 dd_L_law_693 ?_
      refine lv_aload_n hx hb dd_L_law_694 rfl (lv_at hl 1 rfl) ?_
      refine lv_iload hx hb dd_L_law_695 (lv_at hl 5 rfl) ?_
      refine lv_iconst (v := 2) hx hb dd_L_law_697 (by decide) ?_
      refine lv_iadd hx hb dd_L_law_698 ?_
      refine va_sld hx hb hX hbl hbA hw.2.2 hv2 dd_L_law_699 ?_
      refine lv_aload_n hx hb dd_L_law_700 rfl (lv_at hl 1 rfl) ?_
      refine lv_iload hx hb dd_L_law_701 (lv_at hl 5 rfl) ?_
      refine lv_iconst (v := 3) hx hb dd_L_law_703 (by decide) ?_
      refine lv_iadd hx hb dd_L_law_704 ?_
      refine va_sld hx hb hX hbl hbA hw.2.2 hv3 dd_L_law_705 ?_
      refine lv_if_eq (tgt := 713) hx hb dd_L_law_706 (by decide) (fun c8 => ?_) (fun c8 => absurd c1 c8)
      refine lv_iconst (v := 0) hx hb dd_L_law_713 (by decide) ?_
      refine cx_after (cx_rV (n := 3) (As := [.int (xs (nI i + (1 : Int32)).toNatClampNeg), .int (xs (nI i + (2 : Int32)).toNatClampNeg), .int (0 : Int32)]) (rest := []) ⟨hx, hb, hml, hown, hg⟩ hM (cx_gv gm_L_125 gi_M_season gs_M_season gn_M gc_M_season) (by decide +kernel) ⟨by decide, by decide⟩ hK hw hv rfl rfl hl.1 rfl (Nat.le_of_ble_eq_true rfl) dd_L_law_714 ⟨Nat.le_trans (by dsimp only; omega) hcs.1, Nat.le_trans (by dsimp only; omega) hcs.2⟩) hw (fun v9 P3 H locs hp hw => ?_)
      obtain ⟨rfl, hI⟩ := hE _ _ hp
      refine W.eq (g2 := F0 m 717 ls []) rfl ?_
      refine lv_aload_n hx hb dd_L_law_717 rfl (lv_at hl 3 rfl) ?_
      obtain ⟨vs9, hv9, hM9⟩ := iv_thr (l := l) (z := z) (D := D) (sa := sa) hI
      refine cx_after (cx_rV (n := 0) (As := []) (rest := []) ⟨hx, hb, hml, hown, hg⟩ hM9 (cx_gv gm_L_90 gi_M_thrown gs_M_thrown gn_M gc_M_thrown) (by decide +kernel) ⟨by decide, by decide⟩ hK hw hv9 rfl rfl hl.1 rfl (Nat.le_of_ble_eq_true rfl) dd_L_law_718 ⟨Nat.le_trans (by dsimp only; omega) hcs.1, Nat.le_trans (by dsimp only; omega) hcs.2⟩) hw (fun v9 P9 H locs hp hw => ?_)
      obtain ⟨rfl, e9⟩ := hp
      rw [e9] at hw
      clear e9 P9
      refine W.eq (g2 := F0 m 721 ls [.int (3 : Int32)]) rfl ?_
      refine lv_iload hx hb dd_L_law_721 (lv_at hl 0 rfl) ?_
      refine lv_icmp_eq (tgt := 728) hx hb dd_L_law_723 (by decide) (fun c9 => ?_) (fun c9 => absurd (by decide) c9)
      refine lv_goto (tgt := 1454) hx hb dd_L_law_728 (by decide) ?_
      refine W.widen (k := cells + 16) (n := slots + 64) (by dsimp only; omega) (by dsimp only; omega) ?_
      exact kk P3 3 H _ ls hI hw (lv_sub hl [1, 2, 3, 4, 5] rfl)
  · skip
    refine lv_iconst (v := 1) hx hb dd_L_law_677 (by decide) ?_
    refine lv_goto (tgt := 682) hx hb dd_L_law_678 (by decide) ?_
    obtain ⟨fs, post, xp, f0, hC, hS, hF⟩ := st_season l hT z D ac sa P h0 hm ao th (xs (nI i + (1 : Int32)).toNatClampNeg) (xs (nI i + (2 : Int32)).toNatClampNeg) (1 : Int32) (.inr rfl) hI
    refine cx_afterX (cx_rSH (n := 4) (As := [.ref h0, .int (xs (nI i + (1 : Int32)).toNatClampNeg), .int (xs (nI i + (2 : Int32)).toNatClampNeg), .int (1 : Int32)]) (rest := []) ⟨hx, hb, hml, hown, hg⟩ (w_season l z D ac sa P h0 fs (xs (nI i + (1 : Int32)).toNatClampNeg) (xs (nI i + (2 : Int32)).toNatClampNeg) (1 : Int32) post xp hC (fun v P1 h => (hS v P1 h).1) (fun E P1 h => (hF E P1 h).elim (fun cd h => h.1.imp And.left (Or.imp And.left And.left))) f0) gch_L_season gm_L_122 gt_L_season gn_L (by decide +kernel) ⟨by decide, by decide⟩ hK hw rfl hl.1 rfl (Nat.le_of_ble_eq_true rfl) dd_L_law_682 ⟨Nat.le_trans (by dsimp only; omega) hcs.1, Nat.le_trans (by dsimp only; omega) hcs.2⟩) hw (fun E9 ce9 q9 P9 H locs hp hw hce hcv hcl => hp.elim) (fun v9 P9 H locs hp hw => ?_)
    rcases hp with ⟨hp, rfl⟩ | ⟨hp, rfl⟩ | ⟨hp, rfl⟩ | ⟨hp, rfl⟩
    · skip
      obtain ⟨-, vs, mp, hv, hM, hE⟩ := hS _ _ hp
      refine W.eq (g2 := F0 m 685 ls [.int (0 : Int32)]) rfl ?_
      refine lv_istore (lv' := [(5, .int (0 : Int32)), (0, .ref b), (1, .ref h0), (2, .ref hm), (3, .ref ao), (4, .int (nI i))]) hx hb dd_L_law_685 hl (by decide) rfl (fun ls hl => ?_)
      refine lv_aload_n hx hb dd_L_law_687 rfl (lv_at hl 3 rfl) ?_
      refine lv_aload_n hx hb dd_L_law_688 rfl (lv_at hl 1 rfl) ?_
      refine lv_iload hx hb dd_L_law_689 (lv_at hl 5 rfl) ?_
      refine lv_iconst (v := 1) hx hb dd_L_law_691 (by decide) ?_
      refine lv_iadd hx hb dd_L_law_692 ?_
      refine va_sld hx hb hX hbl hbA hw.2.2 hv1 dd_L_law_693 ?_
      refine lv_aload_n hx hb dd_L_law_694 rfl (lv_at hl 1 rfl) ?_
      refine lv_iload hx hb dd_L_law_695 (lv_at hl 5 rfl) ?_
      refine lv_iconst (v := 2) hx hb dd_L_law_697 (by decide) ?_
      refine lv_iadd hx hb dd_L_law_698 ?_
      refine va_sld hx hb hX hbl hbA hw.2.2 hv2 dd_L_law_699 ?_
      refine lv_aload_n hx hb dd_L_law_700 rfl (lv_at hl 1 rfl) ?_
      refine lv_iload hx hb dd_L_law_701 (lv_at hl 5 rfl) ?_
      refine lv_iconst (v := 3) hx hb dd_L_law_703 (by decide) ?_
      refine lv_iadd hx hb dd_L_law_704 ?_
      refine va_sld hx hb hX hbl hbA hw.2.2 hv3 dd_L_law_705 ?_
      refine lv_if_eq (tgt := 713) hx hb dd_L_law_706 (by decide) (fun c10 => absurd c10 c1) (fun c10 => ?_)
      refine lv_iconst (v := 1) hx hb dd_L_law_709 (by decide) ?_
      refine lv_goto (tgt := 714) hx hb dd_L_law_710 (by decide) ?_
      refine cx_after (cx_rV (n := 3) (As := [.int (xs (nI i + (1 : Int32)).toNatClampNeg), .int (xs (nI i + (2 : Int32)).toNatClampNeg), .int (1 : Int32)]) (rest := []) ⟨hx, hb, hml, hown, hg⟩ hM (cx_gv gm_L_125 gi_M_season gs_M_season gn_M gc_M_season) (by decide +kernel) ⟨by decide, by decide⟩ hK hw hv rfl rfl hl.1 rfl (Nat.le_of_ble_eq_true rfl) dd_L_law_714 ⟨Nat.le_trans (by dsimp only; omega) hcs.1, Nat.le_trans (by dsimp only; omega) hcs.2⟩) hw (fun v9 P3 H locs hp hw => ?_)
      obtain ⟨rfl, hI⟩ := hE _ _ hp
      refine W.eq (g2 := F0 m 717 ls []) rfl ?_
      refine lv_aload_n hx hb dd_L_law_717 rfl (lv_at hl 3 rfl) ?_
      obtain ⟨vs9, hv9, hM9⟩ := iv_thr (l := l) (z := z) (D := D) (sa := sa) hI
      refine cx_after (cx_rV (n := 0) (As := []) (rest := []) ⟨hx, hb, hml, hown, hg⟩ hM9 (cx_gv gm_L_90 gi_M_thrown gs_M_thrown gn_M gc_M_thrown) (by decide +kernel) ⟨by decide, by decide⟩ hK hw hv9 rfl rfl hl.1 rfl (Nat.le_of_ble_eq_true rfl) dd_L_law_718 ⟨Nat.le_trans (by dsimp only; omega) hcs.1, Nat.le_trans (by dsimp only; omega) hcs.2⟩) hw (fun v9 P9 H locs hp hw => ?_)
      obtain ⟨rfl, e9⟩ := hp
      rw [e9] at hw
      clear e9 P9
      refine W.eq (g2 := F0 m 721 ls [.int (0 : Int32)]) rfl ?_
      refine lv_iload hx hb dd_L_law_721 (lv_at hl 0 rfl) ?_
      refine lv_icmp_eq (tgt := 728) hx hb dd_L_law_723 (by decide) (fun c11 => ?_) (fun c11 => absurd (by decide) c11)
      refine lv_goto (tgt := 1454) hx hb dd_L_law_728 (by decide) ?_
      refine W.widen (k := cells + 16) (n := slots + 64) (by dsimp only; omega) (by dsimp only; omega) ?_
      exact kk P3 0 H _ ls hI hw (lv_sub hl [1, 2, 3, 4, 5] rfl)
    · skip
      obtain ⟨cd, hcd, vs, mp, hv, hM, hE⟩ := hF _ _ hp
      have hcd : cd = 1 := by
        rcases hcd with ⟨q, h⟩ | ⟨q, h⟩ | ⟨q, h⟩ <;> first | exact h | exact absurd q (by decide +kernel)
      subst hcd
      refine W.eq (g2 := F0 m 685 ls [.int (1 : Int32)]) rfl ?_
      refine lv_istore (lv' := [(5, .int (1 : Int32)), (0, .ref b), (1, .ref h0), (2, .ref hm), (3, .ref ao), (4, .int (nI i))]) hx hb dd_L_law_685 hl (by decide) rfl (fun ls hl => ?_)
      refine lv_aload_n hx hb dd_L_law_687 rfl (lv_at hl 3 rfl) ?_
      refine lv_aload_n hx hb dd_L_law_688 rfl (lv_at hl 1 rfl) ?_
      refine lv_iload hx hb dd_L_law_689 (lv_at hl 5 rfl) ?_
      refine lv_iconst (v := 1) hx hb dd_L_law_691 (by decide) ?_
      refine lv_iadd hx hb dd_L_law_692 ?_
      refine va_sld hx hb hX hbl hbA hw.2.2 hv1 dd_L_law_693 ?_
      refine lv_aload_n hx hb dd_L_law_694 rfl (lv_at hl 1 rfl) ?_
      refine lv_iload hx hb dd_L_law_695 (lv_at hl 5 rfl) ?_
      refine lv_iconst (v := 2) hx hb dd_L_law_697 (by decide) ?_
      refine lv_iadd hx hb dd_L_law_698 ?_
      refine va_sld hx hb hX hbl hbA hw.2.2 hv2 dd_L_law_699 ?_
      refine lv_aload_n hx hb dd_L_law_700 rfl (lv_at hl 1 rfl) ?_
      refine lv_iload hx hb dd_L_law_701 (lv_at hl 5 rfl) ?_
      refine lv_iconst (v := 3) hx hb dd_L_law_703 (by decide) ?_
      refine lv_iadd hx hb dd_L_law_704 ?_
      refine va_sld hx hb hX hbl hbA hw.2.2 hv3 dd_L_law_705 ?_
      refine lv_if_eq (tgt := 713) hx hb dd_L_law_706 (by decide) (fun c12 => absurd c12 c1) (fun c12 => ?_)
      refine lv_iconst (v := 1) hx hb dd_L_law_709 (by decide) ?_
      refine lv_goto (tgt := 714) hx hb dd_L_law_710 (by decide) ?_
      refine cx_after (cx_rV (n := 3) (As := [.int (xs (nI i + (1 : Int32)).toNatClampNeg), .int (xs (nI i + (2 : Int32)).toNatClampNeg), .int (1 : Int32)]) (rest := []) ⟨hx, hb, hml, hown, hg⟩ hM (cx_gv gm_L_125 gi_M_season gs_M_season gn_M gc_M_season) (by decide +kernel) ⟨by decide, by decide⟩ hK hw hv rfl rfl hl.1 rfl (Nat.le_of_ble_eq_true rfl) dd_L_law_714 ⟨Nat.le_trans (by dsimp only; omega) hcs.1, Nat.le_trans (by dsimp only; omega) hcs.2⟩) hw (fun v9 P3 H locs hp hw => ?_)
      obtain ⟨rfl, hI⟩ := hE _ _ hp
      refine W.eq (g2 := F0 m 717 ls []) rfl ?_
      refine lv_aload_n hx hb dd_L_law_717 rfl (lv_at hl 3 rfl) ?_
      obtain ⟨vs9, hv9, hM9⟩ := iv_thr (l := l) (z := z) (D := D) (sa := sa) hI
      refine cx_after (cx_rV (n := 0) (As := []) (rest := []) ⟨hx, hb, hml, hown, hg⟩ hM9 (cx_gv gm_L_90 gi_M_thrown gs_M_thrown gn_M gc_M_thrown) (by decide +kernel) ⟨by decide, by decide⟩ hK hw hv9 rfl rfl hl.1 rfl (Nat.le_of_ble_eq_true rfl) dd_L_law_718 ⟨Nat.le_trans (by dsimp only; omega) hcs.1, Nat.le_trans (by dsimp only; omega) hcs.2⟩) hw (fun v9 P9 H locs hp hw => ?_)
      obtain ⟨rfl, e9⟩ := hp
      rw [e9] at hw
      clear e9 P9
      refine W.eq (g2 := F0 m 721 ls [.int (1 : Int32)]) rfl ?_
      refine lv_iload hx hb dd_L_law_721 (lv_at hl 0 rfl) ?_
      refine lv_icmp_eq (tgt := 728) hx hb dd_L_law_723 (by decide) (fun c13 => ?_) (fun c13 => absurd (by decide) c13)
      refine lv_goto (tgt := 1454) hx hb dd_L_law_728 (by decide) ?_
      refine W.widen (k := cells + 16) (n := slots + 64) (by dsimp only; omega) (by dsimp only; omega) ?_
      exact kk P3 1 H _ ls hI hw (lv_sub hl [1, 2, 3, 4, 5] rfl)
    · skip
      obtain ⟨cd, hcd, vs, mp, hv, hM, hE⟩ := hF _ _ hp
      have hcd : cd = 2 := by
        rcases hcd with ⟨q, h⟩ | ⟨q, h⟩ | ⟨q, h⟩ <;> first | exact h | exact absurd q (by decide +kernel)
      subst hcd
      refine W.eq (g2 := F0 m 685 ls [.int (2 : Int32)]) rfl ?_
      refine lv_istore (lv' := [(5, .int (2 : Int32)), (0, .ref b), (1, .ref h0), (2, .ref hm), (3, .ref ao), (4, .int (nI i))]) hx hb dd_L_law_685 hl (by decide) rfl (fun ls hl => ?_)
      refine lv_aload_n hx hb dd_L_law_687 rfl (lv_at hl 3 rfl) ?_
      refine lv_aload_n hx hb dd_L_law_688 rfl (lv_at hl 1 rfl) ?_
      refine lv_iload hx hb dd_L_law_689 (lv_at hl 5 rfl) ?_
      refine lv_iconst (v := 1) hx hb dd_L_law_691 (by decide) ?_
      refine lv_iadd hx hb dd_L_law_692 ?_
      refine va_sld hx hb hX hbl hbA hw.2.2 hv1 dd_L_law_693 ?_
      refine lv_aload_n hx hb dd_L_law_694 rfl (lv_at hl 1 rfl) ?_
      refine lv_iload hx hb dd_L_law_695 (lv_at hl 5 rfl) ?_
      refine lv_iconst (v := 2) hx hb dd_L_law_697 (by decide) ?_
      refine lv_iadd hx hb dd_L_law_698 ?_
      refine va_sld hx hb hX hbl hbA hw.2.2 hv2 dd_L_law_699 ?_
      refine lv_aload_n hx hb dd_L_law_700 rfl (lv_at hl 1 rfl) ?_
      refine lv_iload hx hb dd_L_law_701 (lv_at hl 5 rfl) ?_
      refine lv_iconst (v := 3) hx hb dd_L_law_703 (by decide) ?_
      refine lv_iadd hx hb dd_L_law_704 ?_
      refine va_sld hx hb hX hbl hbA hw.2.2 hv3 dd_L_law_705 ?_
      refine lv_if_eq (tgt := 713) hx hb dd_L_law_706 (by decide) (fun c14 => absurd c14 c1) (fun c14 => ?_)
      refine lv_iconst (v := 1) hx hb dd_L_law_709 (by decide) ?_
      refine lv_goto (tgt := 714) hx hb dd_L_law_710 (by decide) ?_
      refine cx_after (cx_rV (n := 3) (As := [.int (xs (nI i + (1 : Int32)).toNatClampNeg), .int (xs (nI i + (2 : Int32)).toNatClampNeg), .int (1 : Int32)]) (rest := []) ⟨hx, hb, hml, hown, hg⟩ hM (cx_gv gm_L_125 gi_M_season gs_M_season gn_M gc_M_season) (by decide +kernel) ⟨by decide, by decide⟩ hK hw hv rfl rfl hl.1 rfl (Nat.le_of_ble_eq_true rfl) dd_L_law_714 ⟨Nat.le_trans (by dsimp only; omega) hcs.1, Nat.le_trans (by dsimp only; omega) hcs.2⟩) hw (fun v9 P3 H locs hp hw => ?_)
      obtain ⟨rfl, hI⟩ := hE _ _ hp
      refine W.eq (g2 := F0 m 717 ls []) rfl ?_
      refine lv_aload_n hx hb dd_L_law_717 rfl (lv_at hl 3 rfl) ?_
      obtain ⟨vs9, hv9, hM9⟩ := iv_thr (l := l) (z := z) (D := D) (sa := sa) hI
      refine cx_after (cx_rV (n := 0) (As := []) (rest := []) ⟨hx, hb, hml, hown, hg⟩ hM9 (cx_gv gm_L_90 gi_M_thrown gs_M_thrown gn_M gc_M_thrown) (by decide +kernel) ⟨by decide, by decide⟩ hK hw hv9 rfl rfl hl.1 rfl (Nat.le_of_ble_eq_true rfl) dd_L_law_718 ⟨Nat.le_trans (by dsimp only; omega) hcs.1, Nat.le_trans (by dsimp only; omega) hcs.2⟩) hw (fun v9 P9 H locs hp hw => ?_)
      obtain ⟨rfl, e9⟩ := hp
      rw [e9] at hw
      clear e9 P9
      refine W.eq (g2 := F0 m 721 ls [.int (2 : Int32)]) rfl ?_
      refine lv_iload hx hb dd_L_law_721 (lv_at hl 0 rfl) ?_
      refine lv_icmp_eq (tgt := 728) hx hb dd_L_law_723 (by decide) (fun c15 => ?_) (fun c15 => absurd (by decide) c15)
      refine lv_goto (tgt := 1454) hx hb dd_L_law_728 (by decide) ?_
      refine W.widen (k := cells + 16) (n := slots + 64) (by dsimp only; omega) (by dsimp only; omega) ?_
      exact kk P3 2 H _ ls hI hw (lv_sub hl [1, 2, 3, 4, 5] rfl)
    · skip
      obtain ⟨cd, hcd, vs, mp, hv, hM, hE⟩ := hF _ _ hp
      have hcd : cd = 3 := by
        rcases hcd with ⟨q, h⟩ | ⟨q, h⟩ | ⟨q, h⟩ <;> first | exact h | exact absurd q (by decide +kernel)
      subst hcd
      refine W.eq (g2 := F0 m 685 ls [.int (3 : Int32)]) rfl ?_
      refine lv_istore (lv' := [(5, .int (3 : Int32)), (0, .ref b), (1, .ref h0), (2, .ref hm), (3, .ref ao), (4, .int (nI i))]) hx hb dd_L_law_685 hl (by decide) rfl (fun ls hl => ?_)
      refine lv_aload_n hx hb dd_L_law_687 rfl (lv_at hl 3 rfl) ?_
      refine lv_aload_n hx hb dd_L_law_688 rfl (lv_at hl 1 rfl) ?_
      refine lv_iload hx hb dd_L_law_689 (lv_at hl 5 rfl) ?_
      refine lv_iconst (v := 1) hx hb dd_L_law_691 (by decide) ?_
      refine lv_iadd hx hb dd_L_law_692 ?_
      refine va_sld hx hb hX hbl hbA hw.2.2 hv1 dd_L_law_693 ?_
      refine lv_aload_n hx hb dd_L_law_694 rfl (lv_at hl 1 rfl) ?_
      refine lv_iload hx hb dd_L_law_695 (lv_at hl 5 rfl) ?_
      refine lv_iconst (v := 2) hx hb dd_L_law_697 (by decide) ?_
      refine lv_iadd hx hb dd_L_law_698 ?_
      refine va_sld hx hb hX hbl hbA hw.2.2 hv2 dd_L_law_699 ?_
      refine lv_aload_n hx hb dd_L_law_700 rfl (lv_at hl 1 rfl) ?_
      refine lv_iload hx hb dd_L_law_701 (lv_at hl 5 rfl) ?_
      refine lv_iconst (v := 3) hx hb dd_L_law_703 (by decide) ?_
      refine lv_iadd hx hb dd_L_law_704 ?_
      refine va_sld hx hb hX hbl hbA hw.2.2 hv3 dd_L_law_705 ?_
      refine lv_if_eq (tgt := 713) hx hb dd_L_law_706 (by decide) (fun c16 => absurd c16 c1) (fun c16 => ?_)
      refine lv_iconst (v := 1) hx hb dd_L_law_709 (by decide) ?_
      refine lv_goto (tgt := 714) hx hb dd_L_law_710 (by decide) ?_
      refine cx_after (cx_rV (n := 3) (As := [.int (xs (nI i + (1 : Int32)).toNatClampNeg), .int (xs (nI i + (2 : Int32)).toNatClampNeg), .int (1 : Int32)]) (rest := []) ⟨hx, hb, hml, hown, hg⟩ hM (cx_gv gm_L_125 gi_M_season gs_M_season gn_M gc_M_season) (by decide +kernel) ⟨by decide, by decide⟩ hK hw hv rfl rfl hl.1 rfl (Nat.le_of_ble_eq_true rfl) dd_L_law_714 ⟨Nat.le_trans (by dsimp only; omega) hcs.1, Nat.le_trans (by dsimp only; omega) hcs.2⟩) hw (fun v9 P3 H locs hp hw => ?_)
      obtain ⟨rfl, hI⟩ := hE _ _ hp
      refine W.eq (g2 := F0 m 717 ls []) rfl ?_
      refine lv_aload_n hx hb dd_L_law_717 rfl (lv_at hl 3 rfl) ?_
      obtain ⟨vs9, hv9, hM9⟩ := iv_thr (l := l) (z := z) (D := D) (sa := sa) hI
      refine cx_after (cx_rV (n := 0) (As := []) (rest := []) ⟨hx, hb, hml, hown, hg⟩ hM9 (cx_gv gm_L_90 gi_M_thrown gs_M_thrown gn_M gc_M_thrown) (by decide +kernel) ⟨by decide, by decide⟩ hK hw hv9 rfl rfl hl.1 rfl (Nat.le_of_ble_eq_true rfl) dd_L_law_718 ⟨Nat.le_trans (by dsimp only; omega) hcs.1, Nat.le_trans (by dsimp only; omega) hcs.2⟩) hw (fun v9 P9 H locs hp hw => ?_)
      obtain ⟨rfl, e9⟩ := hp
      rw [e9] at hw
      clear e9 P9
      refine W.eq (g2 := F0 m 721 ls [.int (3 : Int32)]) rfl ?_
      refine lv_iload hx hb dd_L_law_721 (lv_at hl 0 rfl) ?_
      refine lv_icmp_eq (tgt := 728) hx hb dd_L_law_723 (by decide) (fun c17 => ?_) (fun c17 => absurd (by decide) c17)
      refine lv_goto (tgt := 1454) hx hb dd_L_law_728 (by decide) ?_
      refine W.widen (k := cells + 16) (n := slots + 64) (by dsimp only; omega) (by dsimp only; omega) ?_
      exact kk P3 3 H _ ls hI hw (lv_sub hl [1, 2, 3, 4, 5] rfl)

set_option maxHeartbeats 4000000 in
set_option maxRecDepth 100000 in
theorem lw_c9 {p : Program} {l : Launch} {e : Env} {s : State} {m : MethodId} {below : List Frame} {meth : Method} {c : Code} {b L : Nat} {xs : Nat → Int32} {z : Nat} {D : va_G} {ac : Nat → ClassId} {sa : Nat → Nat} {Q : State → Prop} (hT : l.stackTraces = false) (hL : L ≤ 3072) (C0 : lw_B p s m c b L xs z D ac sa) {i : Nat} (hi : i + 6 ≤ L) {h0 hm ao : Nat} {P : pm_T} {th : Int32} {H : Heap} {locs : List Loc} {ls : Array Slot} {cells slots : Nat} (hcs : cells + 16 ≤ room_1.cells ∧ slots + 64 ≤ room_1.slots) (hI : iv_I P ac h0 hm ao th) (hw : pm_W z D cl_w P s.heap H locs) (hl : lv_has ls 7 [(0, .ref b), (1, .ref h0), (2, .ref hm), (3, .ref ao), (4, .int (nI i))]) (kk : ∀ (P : pm_T) (th : Int32) (H : Heap) (locs : List Loc) (ls : Array Slot), iv_I P ac h0 hm ao th → pm_W z D cl_w P s.heap H locs → lv_has ls 7 [(0, .ref b), (1, .ref h0), (2, .ref hm), (3, .ref ao), (4, .int (nI i))] → W p l e room_1 s m #[Value.ref b] below meth c H locs (cells + 16) (slots + 64) Q (F0 m 1454 ls [])) : W p l e room_1 s m #[Value.ref b] below meth c H locs cells slots Q (F0 m 731 ls []) := by
  obtain ⟨hx, hb, hml, hown, hg, hX, hbl, hbA, hK⟩ := C0
  have hv1 : vp_in (nI i + (1 : Int32)) L := lw_in (k := 1) rfl hL (by omega)
  have hv2 : vp_in (nI i + (2 : Int32)) L := lw_in (k := 2) rfl hL (by omega)
  have hv3 : vp_in (nI i + (3 : Int32)) L := lw_in (k := 3) rfl hL (by omega)
  have hv4 : vp_in (nI i + (4 : Int32)) L := lw_in (k := 4) rfl hL (by omega)
  have hv5 : vp_in (nI i + (5 : Int32)) L := lw_in (k := 5) rfl hL (by omega)
  refine lv_aload_n hx hb dd_L_law_731 rfl (lv_at hl 1 rfl) ?_
  refine lv_aload_n hx hb dd_L_law_732 rfl (lv_at hl 0 rfl) ?_
  refine lv_iload hx hb dd_L_law_733 (lv_at hl 4 rfl) ?_
  refine lv_iconst (v := 1) hx hb dd_L_law_735 (by decide) ?_
  refine lv_iadd hx hb dd_L_law_736 ?_
  refine va_sld hx hb hX hbl hbA hw.2.2 hv1 dd_L_law_737 ?_
  refine lv_aload_n hx hb dd_L_law_738 rfl (lv_at hl 0 rfl) ?_
  refine lv_iload hx hb dd_L_law_739 (lv_at hl 4 rfl) ?_
  refine lv_iconst (v := 2) hx hb dd_L_law_741 (by decide) ?_
  refine lv_iadd hx hb dd_L_law_742 ?_
  refine va_sld hx hb hX hbl hbA hw.2.2 hv2 dd_L_law_743 ?_
  refine lv_aload_n hx hb dd_L_law_744 rfl (lv_at hl 3 rfl) ?_
  obtain ⟨fs, post, xp, f0, hC, hS, hF⟩ := st_usable l hT z D ac sa P h0 hm ao th (xs (nI i + (1 : Int32)).toNatClampNeg) (xs (nI i + (2 : Int32)).toNatClampNeg) hI
  refine cx_afterX (cx_rSH (n := 4) (As := [.ref h0, .int (xs (nI i + (1 : Int32)).toNatClampNeg), .int (xs (nI i + (2 : Int32)).toNatClampNeg), .ref ao]) (rest := []) ⟨hx, hb, hml, hown, hg⟩ (w_usable l z D ac sa P h0 ao fs (xs (nI i + (1 : Int32)).toNatClampNeg) (xs (nI i + (2 : Int32)).toNatClampNeg) post xp hC (fun v P1 h => (hS v P1 h).elim (fun r h => h.elim (fun fo h => ⟨r, fo, h.1, h.2.2.1⟩))) (fun E P1 h => (hF E P1 h).elim (fun cd h => h.1.imp And.left And.left)) f0) gch_L_usable gm_L_126 gt_L_usable gn_L (by decide +kernel) ⟨by decide, by decide⟩ hK hw rfl hl.1 rfl (Nat.le_of_ble_eq_true rfl) dd_L_law_745 ⟨Nat.le_trans (by dsimp only; omega) hcs.1, Nat.le_trans (by dsimp only; omega) hcs.2⟩) hw (fun E9 ce9 q9 P9 H locs hp hw hce hcv hcl => hp.elim) (fun v9 P9 H locs hp hw => ?_)
  rcases hp with ⟨r, P1, fo, hp, fo9, rfl, e9⟩ | ⟨hp, rfl⟩ | ⟨hp, rfl⟩
  · skip
    rw [e9] at hw
    clear e9 P9
    obtain ⟨r1, fo1, e1, hr01, -, hN⟩ := hS _ _ hp
    have e1 : r = r1 := Value.int.inj (Option.some.inj e1)
    subst e1
    obtain ⟨vs, mp, hv, hM, hE⟩ := hN (vp_updL fo 0 (if r = 0 then (0 : Int64) else 1))
    refine W.eq (g2 := F0 m 748 ls [.int (0 : Int32)]) rfl ?_
    refine lv_istore (lv' := [(5, .int (0 : Int32)), (0, .ref b), (1, .ref h0), (2, .ref hm), (3, .ref ao), (4, .int (nI i))]) hx hb dd_L_law_748 hl (by decide) rfl (fun ls hl => ?_)
    refine lv_aload_n hx hb dd_L_law_750 rfl (lv_at hl 3 rfl) ?_
    refine lv_aload_n hx hb dd_L_law_751 rfl (lv_at hl 1 rfl) ?_
    refine lv_iload hx hb dd_L_law_752 (lv_at hl 5 rfl) ?_
    refine lv_iconst (v := 1) hx hb dd_L_law_754 (by decide) ?_
    refine lv_iadd hx hb dd_L_law_755 ?_
    refine va_sld hx hb hX hbl hbA hw.2.2 hv1 dd_L_law_756 ?_
    refine lv_aload_n hx hb dd_L_law_757 rfl (lv_at hl 1 rfl) ?_
    refine lv_iload hx hb dd_L_law_758 (lv_at hl 5 rfl) ?_
    refine lv_iconst (v := 2) hx hb dd_L_law_760 (by decide) ?_
    refine lv_iadd hx hb dd_L_law_761 ?_
    refine va_sld hx hb hX hbl hbA hw.2.2 hv2 dd_L_law_762 ?_
    refine cx_after (cx_rV (n := 2) (As := [.int (xs (nI i + (1 : Int32)).toNatClampNeg), .int (xs (nI i + (2 : Int32)).toNatClampNeg)]) (rest := []) ⟨hx, hb, hml, hown, hg⟩ hM (cx_gv gm_L_129 gi_M_usable gs_M_usable gn_M gc_M_usable) (by decide +kernel) ⟨by decide, by decide⟩ hK hw hv rfl rfl hl.1 rfl (Nat.le_of_ble_eq_true rfl) dd_L_law_763 ⟨Nat.le_trans (by dsimp only; omega) hcs.1, Nat.le_trans (by dsimp only; omega) hcs.2⟩) hw (fun v9 P3 H locs hp hw => ?_)
    obtain ⟨rfl, hI, hao⟩ := hE _ _ hp
    refine W.eq (g2 := F0 m 766 ls [.int r]) rfl ?_
    refine lv_istore (lv' := [(6, .int r), (5, .int (0 : Int32)), (0, .ref b), (1, .ref h0), (2, .ref hm), (3, .ref ao), (4, .int (nI i))]) hx hb dd_L_law_766 hl (by decide) rfl (fun ls hl => ?_)
    refine lv_aload_n hx hb dd_L_law_768 rfl (lv_at hl 4 rfl) ?_
    obtain ⟨vs9, hv9, hM9⟩ := iv_thr (l := l) (z := z) (D := D) (sa := sa) hI
    refine cx_after (cx_rV (n := 0) (As := []) (rest := []) ⟨hx, hb, hml, hown, hg⟩ hM9 (cx_gv gm_L_90 gi_M_thrown gs_M_thrown gn_M gc_M_thrown) (by decide +kernel) ⟨by decide, by decide⟩ hK hw hv9 rfl rfl hl.1 rfl (Nat.le_of_ble_eq_true rfl) dd_L_law_769 ⟨Nat.le_trans (by dsimp only; omega) hcs.1, Nat.le_trans (by dsimp only; omega) hcs.2⟩) hw (fun v9 P9 H locs hp hw => ?_)
    obtain ⟨rfl, e9⟩ := hp
    rw [e9] at hw
    clear e9 P9
    refine W.eq (g2 := F0 m 772 ls [.int (0 : Int32)]) rfl ?_
    refine lv_iload hx hb dd_L_law_772 (lv_at hl 1 rfl) ?_
    refine lv_icmp_eq (tgt := 779) hx hb dd_L_law_774 (by decide) (fun c1 => ?_) (fun c1 => absurd (by decide) c1)
    refine lv_iload hx hb dd_L_law_779 (lv_at hl 1 rfl) ?_
    refine lv_if_ne (tgt := 803) hx hb dd_L_law_781 (by decide) (fun c2 => absurd (by decide) c2) (fun c2 => ?_)
    refine lv_aload_n hx hb dd_L_law_784 rfl (lv_at hl 5 rfl) ?_
    refine lv_iconst (v := 0) hx hb dd_L_law_785 (by decide) ?_
    refine pm_lald hx hb hK.2.1 hw 1 hao rfl (show vp_in (0 : Int32) 1 from vp_in_nI (n := 0) (by decide) (by decide)) dd_L_law_786 ?_
    refine lv_iload hx hb dd_L_law_787 (lv_at hl 0 rfl) ?_
    refine lv_if_eq (tgt := 796) hx hb dd_L_law_789 (by decide) (fun c3 => ?_) (fun c3 => ?_)
    · skip
      refine lv_lconst (v := 0) hx hb dd_L_law_796 (by decide) ?_
      refine W.lcmp hx hb dd_L_law_797 ?_
      refine lv_if_eq (tgt := 803) hx hb dd_L_law_798 (by decide) (fun c4 => ?_) (fun c4 => absurd (lw_cmp (if_pos c3)) c4)
      refine lv_goto (tgt := 1454) hx hb dd_L_law_803 (by decide) ?_
      refine W.widen (k := cells + 16) (n := slots + 64) (by dsimp only; omega) (by dsimp only; omega) ?_
      exact kk P3 0 H _ ls hI hw (lv_sub hl [2, 3, 4, 5, 6] rfl)
    · skip
      refine lv_lconst (v := 1) hx hb dd_L_law_792 (by decide) ?_
      refine lv_goto (tgt := 797) hx hb dd_L_law_793 (by decide) ?_
      refine W.lcmp hx hb dd_L_law_797 ?_
      refine lv_if_eq (tgt := 803) hx hb dd_L_law_798 (by decide) (fun c5 => ?_) (fun c5 => absurd (lw_cmp (if_neg c3)) c5)
      refine lv_goto (tgt := 1454) hx hb dd_L_law_803 (by decide) ?_
      refine W.widen (k := cells + 16) (n := slots + 64) (by dsimp only; omega) (by dsimp only; omega) ?_
      exact kk P3 0 H _ ls hI hw (lv_sub hl [2, 3, 4, 5, 6] rfl)
  · skip
    obtain ⟨cd, hcd, vs, mp, hv, hM, hE⟩ := hF _ _ hp
    have hcd : cd = 1 := by
      rcases hcd with ⟨q, h⟩ | ⟨q, h⟩ <;> first | exact h | exact absurd q (by decide +kernel)
    subst hcd
    refine W.eq (g2 := F0 m 748 ls [.int (1 : Int32)]) rfl ?_
    refine lv_istore (lv' := [(5, .int (1 : Int32)), (0, .ref b), (1, .ref h0), (2, .ref hm), (3, .ref ao), (4, .int (nI i))]) hx hb dd_L_law_748 hl (by decide) rfl (fun ls hl => ?_)
    refine lv_aload_n hx hb dd_L_law_750 rfl (lv_at hl 3 rfl) ?_
    refine lv_aload_n hx hb dd_L_law_751 rfl (lv_at hl 1 rfl) ?_
    refine lv_iload hx hb dd_L_law_752 (lv_at hl 5 rfl) ?_
    refine lv_iconst (v := 1) hx hb dd_L_law_754 (by decide) ?_
    refine lv_iadd hx hb dd_L_law_755 ?_
    refine va_sld hx hb hX hbl hbA hw.2.2 hv1 dd_L_law_756 ?_
    refine lv_aload_n hx hb dd_L_law_757 rfl (lv_at hl 1 rfl) ?_
    refine lv_iload hx hb dd_L_law_758 (lv_at hl 5 rfl) ?_
    refine lv_iconst (v := 2) hx hb dd_L_law_760 (by decide) ?_
    refine lv_iadd hx hb dd_L_law_761 ?_
    refine va_sld hx hb hX hbl hbA hw.2.2 hv2 dd_L_law_762 ?_
    refine cx_after (cx_rV (n := 2) (As := [.int (xs (nI i + (1 : Int32)).toNatClampNeg), .int (xs (nI i + (2 : Int32)).toNatClampNeg)]) (rest := []) ⟨hx, hb, hml, hown, hg⟩ hM (cx_gv gm_L_129 gi_M_usable gs_M_usable gn_M gc_M_usable) (by decide +kernel) ⟨by decide, by decide⟩ hK hw hv rfl rfl hl.1 rfl (Nat.le_of_ble_eq_true rfl) dd_L_law_763 ⟨Nat.le_trans (by dsimp only; omega) hcs.1, Nat.le_trans (by dsimp only; omega) hcs.2⟩) hw (fun v9 P3 H locs hp hw => ?_)
    obtain ⟨⟨b9, rfl⟩, hI⟩ := hE _ _ hp
    refine W.eq (g2 := F0 m 766 ls [.int b9]) rfl ?_
    refine lv_istore (lv' := [(6, .int b9), (5, .int (1 : Int32)), (0, .ref b), (1, .ref h0), (2, .ref hm), (3, .ref ao), (4, .int (nI i))]) hx hb dd_L_law_766 hl (by decide) rfl (fun ls hl => ?_)
    refine lv_aload_n hx hb dd_L_law_768 rfl (lv_at hl 4 rfl) ?_
    obtain ⟨vs9, hv9, hM9⟩ := iv_thr (l := l) (z := z) (D := D) (sa := sa) hI
    refine cx_after (cx_rV (n := 0) (As := []) (rest := []) ⟨hx, hb, hml, hown, hg⟩ hM9 (cx_gv gm_L_90 gi_M_thrown gs_M_thrown gn_M gc_M_thrown) (by decide +kernel) ⟨by decide, by decide⟩ hK hw hv9 rfl rfl hl.1 rfl (Nat.le_of_ble_eq_true rfl) dd_L_law_769 ⟨Nat.le_trans (by dsimp only; omega) hcs.1, Nat.le_trans (by dsimp only; omega) hcs.2⟩) hw (fun v9 P9 H locs hp hw => ?_)
    obtain ⟨rfl, e9⟩ := hp
    rw [e9] at hw
    clear e9 P9
    refine W.eq (g2 := F0 m 772 ls [.int (1 : Int32)]) rfl ?_
    refine lv_iload hx hb dd_L_law_772 (lv_at hl 1 rfl) ?_
    refine lv_icmp_eq (tgt := 779) hx hb dd_L_law_774 (by decide) (fun c6 => ?_) (fun c6 => absurd (by decide) c6)
    refine lv_iload hx hb dd_L_law_779 (lv_at hl 1 rfl) ?_
    refine lv_if_ne (tgt := 803) hx hb dd_L_law_781 (by decide) (fun c7 => ?_) (fun c7 => absurd c7 (by decide))
    refine lv_goto (tgt := 1454) hx hb dd_L_law_803 (by decide) ?_
    refine W.widen (k := cells + 16) (n := slots + 64) (by dsimp only; omega) (by dsimp only; omega) ?_
    exact kk P3 1 H _ ls hI hw (lv_sub hl [2, 3, 4, 5, 6] rfl)
  · skip
    obtain ⟨cd, hcd, vs, mp, hv, hM, hE⟩ := hF _ _ hp
    have hcd : cd = 2 := by
      rcases hcd with ⟨q, h⟩ | ⟨q, h⟩ <;> first | exact h | exact absurd q (by decide +kernel)
    subst hcd
    refine W.eq (g2 := F0 m 748 ls [.int (2 : Int32)]) rfl ?_
    refine lv_istore (lv' := [(5, .int (2 : Int32)), (0, .ref b), (1, .ref h0), (2, .ref hm), (3, .ref ao), (4, .int (nI i))]) hx hb dd_L_law_748 hl (by decide) rfl (fun ls hl => ?_)
    refine lv_aload_n hx hb dd_L_law_750 rfl (lv_at hl 3 rfl) ?_
    refine lv_aload_n hx hb dd_L_law_751 rfl (lv_at hl 1 rfl) ?_
    refine lv_iload hx hb dd_L_law_752 (lv_at hl 5 rfl) ?_
    refine lv_iconst (v := 1) hx hb dd_L_law_754 (by decide) ?_
    refine lv_iadd hx hb dd_L_law_755 ?_
    refine va_sld hx hb hX hbl hbA hw.2.2 hv1 dd_L_law_756 ?_
    refine lv_aload_n hx hb dd_L_law_757 rfl (lv_at hl 1 rfl) ?_
    refine lv_iload hx hb dd_L_law_758 (lv_at hl 5 rfl) ?_
    refine lv_iconst (v := 2) hx hb dd_L_law_760 (by decide) ?_
    refine lv_iadd hx hb dd_L_law_761 ?_
    refine va_sld hx hb hX hbl hbA hw.2.2 hv2 dd_L_law_762 ?_
    refine cx_after (cx_rV (n := 2) (As := [.int (xs (nI i + (1 : Int32)).toNatClampNeg), .int (xs (nI i + (2 : Int32)).toNatClampNeg)]) (rest := []) ⟨hx, hb, hml, hown, hg⟩ hM (cx_gv gm_L_129 gi_M_usable gs_M_usable gn_M gc_M_usable) (by decide +kernel) ⟨by decide, by decide⟩ hK hw hv rfl rfl hl.1 rfl (Nat.le_of_ble_eq_true rfl) dd_L_law_763 ⟨Nat.le_trans (by dsimp only; omega) hcs.1, Nat.le_trans (by dsimp only; omega) hcs.2⟩) hw (fun v9 P3 H locs hp hw => ?_)
    obtain ⟨⟨b9, rfl⟩, hI⟩ := hE _ _ hp
    refine W.eq (g2 := F0 m 766 ls [.int b9]) rfl ?_
    refine lv_istore (lv' := [(6, .int b9), (5, .int (2 : Int32)), (0, .ref b), (1, .ref h0), (2, .ref hm), (3, .ref ao), (4, .int (nI i))]) hx hb dd_L_law_766 hl (by decide) rfl (fun ls hl => ?_)
    refine lv_aload_n hx hb dd_L_law_768 rfl (lv_at hl 4 rfl) ?_
    obtain ⟨vs9, hv9, hM9⟩ := iv_thr (l := l) (z := z) (D := D) (sa := sa) hI
    refine cx_after (cx_rV (n := 0) (As := []) (rest := []) ⟨hx, hb, hml, hown, hg⟩ hM9 (cx_gv gm_L_90 gi_M_thrown gs_M_thrown gn_M gc_M_thrown) (by decide +kernel) ⟨by decide, by decide⟩ hK hw hv9 rfl rfl hl.1 rfl (Nat.le_of_ble_eq_true rfl) dd_L_law_769 ⟨Nat.le_trans (by dsimp only; omega) hcs.1, Nat.le_trans (by dsimp only; omega) hcs.2⟩) hw (fun v9 P9 H locs hp hw => ?_)
    obtain ⟨rfl, e9⟩ := hp
    rw [e9] at hw
    clear e9 P9
    refine W.eq (g2 := F0 m 772 ls [.int (2 : Int32)]) rfl ?_
    refine lv_iload hx hb dd_L_law_772 (lv_at hl 1 rfl) ?_
    refine lv_icmp_eq (tgt := 779) hx hb dd_L_law_774 (by decide) (fun c8 => ?_) (fun c8 => absurd (by decide) c8)
    refine lv_iload hx hb dd_L_law_779 (lv_at hl 1 rfl) ?_
    refine lv_if_ne (tgt := 803) hx hb dd_L_law_781 (by decide) (fun c9 => ?_) (fun c9 => absurd c9 (by decide))
    refine lv_goto (tgt := 1454) hx hb dd_L_law_803 (by decide) ?_
    refine W.widen (k := cells + 16) (n := slots + 64) (by dsimp only; omega) (by dsimp only; omega) ?_
    exact kk P3 2 H _ ls hI hw (lv_sub hl [2, 3, 4, 5, 6] rfl)

set_option maxHeartbeats 4000000 in
set_option maxRecDepth 100000 in
theorem lw_c10 {p : Program} {l : Launch} {e : Env} {s : State} {m : MethodId} {below : List Frame} {meth : Method} {c : Code} {b L : Nat} {xs : Nat → Int32} {z : Nat} {D : va_G} {ac : Nat → ClassId} {sa : Nat → Nat} {Q : State → Prop} (hT : l.stackTraces = false) (hL : L ≤ 3072) (C0 : lw_B p s m c b L xs z D ac sa) {i : Nat} (hi : i + 6 ≤ L) {h0 hm ao : Nat} {P : pm_T} {th : Int32} {H : Heap} {locs : List Loc} {ls : Array Slot} {cells slots : Nat} (hcs : cells + 16 ≤ room_1.cells ∧ slots + 64 ≤ room_1.slots) (hI : iv_I P ac h0 hm ao th) (hw : pm_W z D cl_w P s.heap H locs) (hl : lv_has ls 7 [(0, .ref b), (1, .ref h0), (2, .ref hm), (3, .ref ao), (4, .int (nI i))]) (kk : ∀ (P : pm_T) (th : Int32) (H : Heap) (locs : List Loc) (ls : Array Slot), iv_I P ac h0 hm ao th → pm_W z D cl_w P s.heap H locs → lv_has ls 7 [(0, .ref b), (1, .ref h0), (2, .ref hm), (3, .ref ao), (4, .int (nI i))] → W p l e room_1 s m #[Value.ref b] below meth c H locs (cells + 16) (slots + 64) Q (F0 m 1454 ls [])) : W p l e room_1 s m #[Value.ref b] below meth c H locs cells slots Q (F0 m 806 ls []) := by
  obtain ⟨hx, hb, hml, hown, hg, hX, hbl, hbA, hK⟩ := C0
  have hv1 : vp_in (nI i + (1 : Int32)) L := lw_in (k := 1) rfl hL (by omega)
  have hv2 : vp_in (nI i + (2 : Int32)) L := lw_in (k := 2) rfl hL (by omega)
  have hv3 : vp_in (nI i + (3 : Int32)) L := lw_in (k := 3) rfl hL (by omega)
  have hv4 : vp_in (nI i + (4 : Int32)) L := lw_in (k := 4) rfl hL (by omega)
  have hv5 : vp_in (nI i + (5 : Int32)) L := lw_in (k := 5) rfl hL (by omega)
  refine lv_aload_n hx hb dd_L_law_806 rfl (lv_at hl 1 rfl) ?_
  refine lv_aload_n hx hb dd_L_law_807 rfl (lv_at hl 0 rfl) ?_
  refine lv_iload hx hb dd_L_law_808 (lv_at hl 4 rfl) ?_
  refine lv_iconst (v := 1) hx hb dd_L_law_810 (by decide) ?_
  refine lv_iadd hx hb dd_L_law_811 ?_
  refine va_sld hx hb hX hbl hbA hw.2.2 hv1 dd_L_law_812 ?_
  refine lv_aload_n hx hb dd_L_law_813 rfl (lv_at hl 0 rfl) ?_
  refine lv_iload hx hb dd_L_law_814 (lv_at hl 4 rfl) ?_
  refine lv_iconst (v := 2) hx hb dd_L_law_816 (by decide) ?_
  refine lv_iadd hx hb dd_L_law_817 ?_
  refine va_sld hx hb hX hbl hbA hw.2.2 hv2 dd_L_law_818 ?_
  refine lv_aload_n hx hb dd_L_law_819 rfl (lv_at hl 0 rfl) ?_
  refine lv_iload hx hb dd_L_law_820 (lv_at hl 4 rfl) ?_
  refine lv_iconst (v := 3) hx hb dd_L_law_822 (by decide) ?_
  refine lv_iadd hx hb dd_L_law_823 ?_
  refine va_sld hx hb hX hbl hbA hw.2.2 hv3 dd_L_law_824 ?_
  refine lv_aload_n hx hb dd_L_law_825 rfl (lv_at hl 0 rfl) ?_
  refine lv_iload hx hb dd_L_law_826 (lv_at hl 4 rfl) ?_
  refine lv_iconst (v := 4) hx hb dd_L_law_828 (by decide) ?_
  refine lv_iadd hx hb dd_L_law_829 ?_
  refine va_sld hx hb hX hbl hbA hw.2.2 hv4 dd_L_law_830 ?_
  refine lv_aload_n hx hb dd_L_law_831 rfl (lv_at hl 3 rfl) ?_
  obtain ⟨fs, post, xp, f0, hC, hS, hF⟩ := st_near l hT z D ac sa P h0 hm ao th (xs (nI i + (1 : Int32)).toNatClampNeg) (xs (nI i + (2 : Int32)).toNatClampNeg) (xs (nI i + (3 : Int32)).toNatClampNeg) (xs (nI i + (4 : Int32)).toNatClampNeg) hI
  refine cx_afterX (cx_rSH (n := 6) (As := [.ref h0, .int (xs (nI i + (1 : Int32)).toNatClampNeg), .int (xs (nI i + (2 : Int32)).toNatClampNeg), .int (xs (nI i + (3 : Int32)).toNatClampNeg), .int (xs (nI i + (4 : Int32)).toNatClampNeg), .ref ao]) (rest := []) ⟨hx, hb, hml, hown, hg⟩ (w_near l z D ac sa P h0 ao fs (xs (nI i + (1 : Int32)).toNatClampNeg) (xs (nI i + (2 : Int32)).toNatClampNeg) (xs (nI i + (3 : Int32)).toNatClampNeg) (xs (nI i + (4 : Int32)).toNatClampNeg) post xp hC (fun v P1 h => (hS v P1 h).elim (fun r h => h.elim (fun fo h => ⟨r, fo, h.1, h.2.1⟩))) (fun E P1 h => (hF E P1 h).elim (fun cd h => h.1.1)) f0) gch_L_near gm_L_130 gt_L_near gn_L (by decide +kernel) ⟨by decide, by decide⟩ hK hw rfl hl.1 rfl (Nat.le_of_ble_eq_true rfl) dd_L_law_832 ⟨Nat.le_trans (by dsimp only; omega) hcs.1, Nat.le_trans (by dsimp only; omega) hcs.2⟩) hw (fun E9 ce9 q9 P9 H locs hp hw hce hcv hcl => hp.elim) (fun v9 P9 H locs hp hw => ?_)
  rcases hp with ⟨r, P1, fo, hp, fo9, rfl, e9⟩ | ⟨hp, rfl⟩
  · skip
    rw [e9] at hw
    clear e9 P9
    obtain ⟨r1, fo1, e1, -, hN⟩ := hS _ _ hp
    have e1 : r = r1 := Value.int.inj (Option.some.inj e1)
    subst e1
    obtain ⟨vs, mp, hv, hM, hE⟩ := hN (vp_updL fo 0 r.toInt64)
    refine W.eq (g2 := F0 m 835 ls [.int (0 : Int32)]) rfl ?_
    refine lv_istore (lv' := [(5, .int (0 : Int32)), (0, .ref b), (1, .ref h0), (2, .ref hm), (3, .ref ao), (4, .int (nI i))]) hx hb dd_L_law_835 hl (by decide) rfl (fun ls hl => ?_)
    refine lv_aload_n hx hb dd_L_law_837 rfl (lv_at hl 3 rfl) ?_
    refine lv_aload_n hx hb dd_L_law_838 rfl (lv_at hl 1 rfl) ?_
    refine lv_iload hx hb dd_L_law_839 (lv_at hl 5 rfl) ?_
    refine lv_iconst (v := 1) hx hb dd_L_law_841 (by decide) ?_
    refine lv_iadd hx hb dd_L_law_842 ?_
    refine va_sld hx hb hX hbl hbA hw.2.2 hv1 dd_L_law_843 ?_
    refine lv_aload_n hx hb dd_L_law_844 rfl (lv_at hl 1 rfl) ?_
    refine lv_iload hx hb dd_L_law_845 (lv_at hl 5 rfl) ?_
    refine lv_iconst (v := 2) hx hb dd_L_law_847 (by decide) ?_
    refine lv_iadd hx hb dd_L_law_848 ?_
    refine va_sld hx hb hX hbl hbA hw.2.2 hv2 dd_L_law_849 ?_
    refine lv_aload_n hx hb dd_L_law_850 rfl (lv_at hl 1 rfl) ?_
    refine lv_iload hx hb dd_L_law_851 (lv_at hl 5 rfl) ?_
    refine lv_iconst (v := 3) hx hb dd_L_law_853 (by decide) ?_
    refine lv_iadd hx hb dd_L_law_854 ?_
    refine va_sld hx hb hX hbl hbA hw.2.2 hv3 dd_L_law_855 ?_
    refine lv_aload_n hx hb dd_L_law_856 rfl (lv_at hl 1 rfl) ?_
    refine lv_iload hx hb dd_L_law_857 (lv_at hl 5 rfl) ?_
    refine lv_iconst (v := 4) hx hb dd_L_law_859 (by decide) ?_
    refine lv_iadd hx hb dd_L_law_860 ?_
    refine va_sld hx hb hX hbl hbA hw.2.2 hv4 dd_L_law_861 ?_
    refine cx_after (cx_rV (n := 4) (As := [.int (xs (nI i + (1 : Int32)).toNatClampNeg), .int (xs (nI i + (2 : Int32)).toNatClampNeg), .int (xs (nI i + (3 : Int32)).toNatClampNeg), .int (xs (nI i + (4 : Int32)).toNatClampNeg)]) (rest := []) ⟨hx, hb, hml, hown, hg⟩ hM (cx_gv gm_L_132 gi_M_near gs_M_near gn_M gc_M_near) (by decide +kernel) ⟨by decide, by decide⟩ hK hw hv rfl rfl hl.1 rfl (Nat.le_of_ble_eq_true rfl) dd_L_law_862 ⟨Nat.le_trans (by dsimp only; omega) hcs.1, Nat.le_trans (by dsimp only; omega) hcs.2⟩) hw (fun v9 P3 H locs hp hw => ?_)
    obtain ⟨rfl, hI, hao⟩ := hE _ _ hp
    refine W.eq (g2 := F0 m 865 ls [.int r]) rfl ?_
    refine lv_istore (lv' := [(6, .int r), (5, .int (0 : Int32)), (0, .ref b), (1, .ref h0), (2, .ref hm), (3, .ref ao), (4, .int (nI i))]) hx hb dd_L_law_865 hl (by decide) rfl (fun ls hl => ?_)
    refine lv_aload_n hx hb dd_L_law_867 rfl (lv_at hl 4 rfl) ?_
    obtain ⟨vs9, hv9, hM9⟩ := iv_thr (l := l) (z := z) (D := D) (sa := sa) hI
    refine cx_after (cx_rV (n := 0) (As := []) (rest := []) ⟨hx, hb, hml, hown, hg⟩ hM9 (cx_gv gm_L_90 gi_M_thrown gs_M_thrown gn_M gc_M_thrown) (by decide +kernel) ⟨by decide, by decide⟩ hK hw hv9 rfl rfl hl.1 rfl (Nat.le_of_ble_eq_true rfl) dd_L_law_868 ⟨Nat.le_trans (by dsimp only; omega) hcs.1, Nat.le_trans (by dsimp only; omega) hcs.2⟩) hw (fun v9 P9 H locs hp hw => ?_)
    obtain ⟨rfl, e9⟩ := hp
    rw [e9] at hw
    clear e9 P9
    refine W.eq (g2 := F0 m 871 ls [.int (0 : Int32)]) rfl ?_
    refine lv_iload hx hb dd_L_law_871 (lv_at hl 1 rfl) ?_
    refine lv_icmp_eq (tgt := 878) hx hb dd_L_law_873 (by decide) (fun c1 => ?_) (fun c1 => absurd (by decide) c1)
    refine lv_iload hx hb dd_L_law_878 (lv_at hl 1 rfl) ?_
    refine lv_if_ne (tgt := 895) hx hb dd_L_law_880 (by decide) (fun c2 => absurd (by decide) c2) (fun c2 => ?_)
    refine lv_aload_n hx hb dd_L_law_883 rfl (lv_at hl 5 rfl) ?_
    refine lv_iconst (v := 0) hx hb dd_L_law_884 (by decide) ?_
    refine pm_lald hx hb hK.2.1 hw 1 hao rfl (show vp_in (0 : Int32) 1 from vp_in_nI (n := 0) (by decide) (by decide)) dd_L_law_885 ?_
    refine lv_iload hx hb dd_L_law_886 (lv_at hl 0 rfl) ?_
    refine lv_i2l hx hb dd_L_law_888 rfl ?_
    refine W.lcmp hx hb dd_L_law_889 ?_
    refine lv_if_eq (tgt := 895) hx hb dd_L_law_890 (by decide) (fun c3 => ?_) (fun c3 => absurd (lw_cmp rfl) c3)
    refine lv_goto (tgt := 1454) hx hb dd_L_law_895 (by decide) ?_
    refine W.widen (k := cells + 16) (n := slots + 64) (by dsimp only; omega) (by dsimp only; omega) ?_
    exact kk P3 0 H _ ls hI hw (lv_sub hl [2, 3, 4, 5, 6] rfl)
  · skip
    obtain ⟨cd, hcd, vs, mp, hv, hM, hE⟩ := hF _ _ hp
    have hcd : cd = 1 := hcd.2
    subst hcd
    refine W.eq (g2 := F0 m 835 ls [.int (1 : Int32)]) rfl ?_
    refine lv_istore (lv' := [(5, .int (1 : Int32)), (0, .ref b), (1, .ref h0), (2, .ref hm), (3, .ref ao), (4, .int (nI i))]) hx hb dd_L_law_835 hl (by decide) rfl (fun ls hl => ?_)
    refine lv_aload_n hx hb dd_L_law_837 rfl (lv_at hl 3 rfl) ?_
    refine lv_aload_n hx hb dd_L_law_838 rfl (lv_at hl 1 rfl) ?_
    refine lv_iload hx hb dd_L_law_839 (lv_at hl 5 rfl) ?_
    refine lv_iconst (v := 1) hx hb dd_L_law_841 (by decide) ?_
    refine lv_iadd hx hb dd_L_law_842 ?_
    refine va_sld hx hb hX hbl hbA hw.2.2 hv1 dd_L_law_843 ?_
    refine lv_aload_n hx hb dd_L_law_844 rfl (lv_at hl 1 rfl) ?_
    refine lv_iload hx hb dd_L_law_845 (lv_at hl 5 rfl) ?_
    refine lv_iconst (v := 2) hx hb dd_L_law_847 (by decide) ?_
    refine lv_iadd hx hb dd_L_law_848 ?_
    refine va_sld hx hb hX hbl hbA hw.2.2 hv2 dd_L_law_849 ?_
    refine lv_aload_n hx hb dd_L_law_850 rfl (lv_at hl 1 rfl) ?_
    refine lv_iload hx hb dd_L_law_851 (lv_at hl 5 rfl) ?_
    refine lv_iconst (v := 3) hx hb dd_L_law_853 (by decide) ?_
    refine lv_iadd hx hb dd_L_law_854 ?_
    refine va_sld hx hb hX hbl hbA hw.2.2 hv3 dd_L_law_855 ?_
    refine lv_aload_n hx hb dd_L_law_856 rfl (lv_at hl 1 rfl) ?_
    refine lv_iload hx hb dd_L_law_857 (lv_at hl 5 rfl) ?_
    refine lv_iconst (v := 4) hx hb dd_L_law_859 (by decide) ?_
    refine lv_iadd hx hb dd_L_law_860 ?_
    refine va_sld hx hb hX hbl hbA hw.2.2 hv4 dd_L_law_861 ?_
    refine cx_after (cx_rV (n := 4) (As := [.int (xs (nI i + (1 : Int32)).toNatClampNeg), .int (xs (nI i + (2 : Int32)).toNatClampNeg), .int (xs (nI i + (3 : Int32)).toNatClampNeg), .int (xs (nI i + (4 : Int32)).toNatClampNeg)]) (rest := []) ⟨hx, hb, hml, hown, hg⟩ hM (cx_gv gm_L_132 gi_M_near gs_M_near gn_M gc_M_near) (by decide +kernel) ⟨by decide, by decide⟩ hK hw hv rfl rfl hl.1 rfl (Nat.le_of_ble_eq_true rfl) dd_L_law_862 ⟨Nat.le_trans (by dsimp only; omega) hcs.1, Nat.le_trans (by dsimp only; omega) hcs.2⟩) hw (fun v9 P3 H locs hp hw => ?_)
    obtain ⟨⟨b9, rfl⟩, hI⟩ := hE _ _ hp
    refine W.eq (g2 := F0 m 865 ls [.int b9]) rfl ?_
    refine lv_istore (lv' := [(6, .int b9), (5, .int (1 : Int32)), (0, .ref b), (1, .ref h0), (2, .ref hm), (3, .ref ao), (4, .int (nI i))]) hx hb dd_L_law_865 hl (by decide) rfl (fun ls hl => ?_)
    refine lv_aload_n hx hb dd_L_law_867 rfl (lv_at hl 4 rfl) ?_
    obtain ⟨vs9, hv9, hM9⟩ := iv_thr (l := l) (z := z) (D := D) (sa := sa) hI
    refine cx_after (cx_rV (n := 0) (As := []) (rest := []) ⟨hx, hb, hml, hown, hg⟩ hM9 (cx_gv gm_L_90 gi_M_thrown gs_M_thrown gn_M gc_M_thrown) (by decide +kernel) ⟨by decide, by decide⟩ hK hw hv9 rfl rfl hl.1 rfl (Nat.le_of_ble_eq_true rfl) dd_L_law_868 ⟨Nat.le_trans (by dsimp only; omega) hcs.1, Nat.le_trans (by dsimp only; omega) hcs.2⟩) hw (fun v9 P9 H locs hp hw => ?_)
    obtain ⟨rfl, e9⟩ := hp
    rw [e9] at hw
    clear e9 P9
    refine W.eq (g2 := F0 m 871 ls [.int (1 : Int32)]) rfl ?_
    refine lv_iload hx hb dd_L_law_871 (lv_at hl 1 rfl) ?_
    refine lv_icmp_eq (tgt := 878) hx hb dd_L_law_873 (by decide) (fun c4 => ?_) (fun c4 => absurd (by decide) c4)
    refine lv_iload hx hb dd_L_law_878 (lv_at hl 1 rfl) ?_
    refine lv_if_ne (tgt := 895) hx hb dd_L_law_880 (by decide) (fun c5 => ?_) (fun c5 => absurd c5 (by decide))
    refine lv_goto (tgt := 1454) hx hb dd_L_law_895 (by decide) ?_
    refine W.widen (k := cells + 16) (n := slots + 64) (by dsimp only; omega) (by dsimp only; omega) ?_
    exact kk P3 1 H _ ls hI hw (lv_sub hl [2, 3, 4, 5, 6] rfl)

set_option maxHeartbeats 4000000 in
set_option maxRecDepth 100000 in
theorem lw_c11 {p : Program} {l : Launch} {e : Env} {s : State} {m : MethodId} {below : List Frame} {meth : Method} {c : Code} {b L : Nat} {xs : Nat → Int32} {z : Nat} {D : va_G} {ac : Nat → ClassId} {sa : Nat → Nat} {Q : State → Prop} (hT : l.stackTraces = false) (hL : L ≤ 3072) (C0 : lw_B p s m c b L xs z D ac sa) {i : Nat} (hi : i + 6 ≤ L) {h0 hm ao : Nat} {P : pm_T} {th : Int32} {H : Heap} {locs : List Loc} {ls : Array Slot} {cells slots : Nat} (hcs : cells + 16 ≤ room_1.cells ∧ slots + 64 ≤ room_1.slots) (hI : iv_I P ac h0 hm ao th) (hw : pm_W z D cl_w P s.heap H locs) (hl : lv_has ls 7 [(0, .ref b), (1, .ref h0), (2, .ref hm), (3, .ref ao), (4, .int (nI i))]) (kk : ∀ (P : pm_T) (th : Int32) (H : Heap) (locs : List Loc) (ls : Array Slot), iv_I P ac h0 hm ao th → pm_W z D cl_w P s.heap H locs → lv_has ls 7 [(0, .ref b), (1, .ref h0), (2, .ref hm), (3, .ref ao), (4, .int (nI i))] → W p l e room_1 s m #[Value.ref b] below meth c H locs (cells + 16) (slots + 64) Q (F0 m 1454 ls [])) : W p l e room_1 s m #[Value.ref b] below meth c H locs cells slots Q (F0 m 898 ls []) := by
  obtain ⟨hx, hb, hml, hown, hg, hX, hbl, hbA, hK⟩ := C0
  have hv1 : vp_in (nI i + (1 : Int32)) L := lw_in (k := 1) rfl hL (by omega)
  have hv2 : vp_in (nI i + (2 : Int32)) L := lw_in (k := 2) rfl hL (by omega)
  have hv3 : vp_in (nI i + (3 : Int32)) L := lw_in (k := 3) rfl hL (by omega)
  have hv4 : vp_in (nI i + (4 : Int32)) L := lw_in (k := 4) rfl hL (by omega)
  have hv5 : vp_in (nI i + (5 : Int32)) L := lw_in (k := 5) rfl hL (by omega)
  refine lv_aload_n hx hb dd_L_law_898 rfl (lv_at hl 1 rfl) ?_
  refine lv_aload_n hx hb dd_L_law_899 rfl (lv_at hl 0 rfl) ?_
  refine lv_iload hx hb dd_L_law_900 (lv_at hl 4 rfl) ?_
  refine lv_iconst (v := 1) hx hb dd_L_law_902 (by decide) ?_
  refine lv_iadd hx hb dd_L_law_903 ?_
  refine va_sld hx hb hX hbl hbA hw.2.2 hv1 dd_L_law_904 ?_
  refine lv_aload_n hx hb dd_L_law_905 rfl (lv_at hl 0 rfl) ?_
  refine lv_iload hx hb dd_L_law_906 (lv_at hl 4 rfl) ?_
  refine lv_iconst (v := 2) hx hb dd_L_law_908 (by decide) ?_
  refine lv_iadd hx hb dd_L_law_909 ?_
  refine va_sld hx hb hX hbl hbA hw.2.2 hv2 dd_L_law_910 ?_
  refine lv_aload_n hx hb dd_L_law_911 rfl (lv_at hl 0 rfl) ?_
  refine lv_iload hx hb dd_L_law_912 (lv_at hl 4 rfl) ?_
  refine lv_iconst (v := 3) hx hb dd_L_law_914 (by decide) ?_
  refine lv_iadd hx hb dd_L_law_915 ?_
  refine va_sld hx hb hX hbl hbA hw.2.2 hv3 dd_L_law_916 ?_
  refine lv_aload_n hx hb dd_L_law_917 rfl (lv_at hl 3 rfl) ?_
  obtain ⟨fs, post, xp, f0, hC, hS, hF⟩ := st_both l hT z D ac sa P h0 hm ao th (xs (nI i + (1 : Int32)).toNatClampNeg) (xs (nI i + (2 : Int32)).toNatClampNeg) (xs (nI i + (3 : Int32)).toNatClampNeg) hI
  refine cx_afterX (cx_rSH (n := 5) (As := [.ref h0, .int (xs (nI i + (1 : Int32)).toNatClampNeg), .int (xs (nI i + (2 : Int32)).toNatClampNeg), .int (xs (nI i + (3 : Int32)).toNatClampNeg), .ref ao]) (rest := []) ⟨hx, hb, hml, hown, hg⟩ (w_both l z D ac sa P h0 ao fs (xs (nI i + (1 : Int32)).toNatClampNeg) (xs (nI i + (2 : Int32)).toNatClampNeg) (xs (nI i + (3 : Int32)).toNatClampNeg) post xp hC (fun v P1 h => (hS v P1 h).elim (fun r h => h.elim (fun fo h => ⟨r, fo, h.1, h.2.1⟩))) (fun E P1 h => (hF E P1 h).elim (fun cd h => h.1.imp And.left (Or.imp And.left (Or.imp And.left And.left)))) f0) gch_L_both gm_L_133 gt_L_both gn_L (by decide +kernel) ⟨by decide, by decide⟩ hK hw rfl hl.1 rfl (Nat.le_of_ble_eq_true rfl) dd_L_law_918 ⟨Nat.le_trans (by dsimp only; omega) hcs.1, Nat.le_trans (by dsimp only; omega) hcs.2⟩) hw (fun E9 ce9 q9 P9 H locs hp hw hce hcv hcl => hp.elim) (fun v9 P9 H locs hp hw => ?_)
  rcases hp with ⟨r, P1, fo, hp, fo9, rfl, e9⟩ | ⟨hp, rfl⟩ | ⟨hp, rfl⟩ | ⟨hp, rfl⟩ | ⟨hp, rfl⟩
  · skip
    rw [e9] at hw
    clear e9 P9
    obtain ⟨r1, fo1, e1, -, hN⟩ := hS _ _ hp
    have e1 : r = r1 := Value.int.inj (Option.some.inj e1)
    subst e1
    obtain ⟨vs, mp, hv, hM, hE⟩ := hN (vp_updL fo 0 r.toInt64)
    refine W.eq (g2 := F0 m 921 ls [.int (0 : Int32)]) rfl ?_
    refine lv_istore (lv' := [(5, .int (0 : Int32)), (0, .ref b), (1, .ref h0), (2, .ref hm), (3, .ref ao), (4, .int (nI i))]) hx hb dd_L_law_921 hl (by decide) rfl (fun ls hl => ?_)
    refine lv_aload_n hx hb dd_L_law_923 rfl (lv_at hl 3 rfl) ?_
    refine lv_aload_n hx hb dd_L_law_924 rfl (lv_at hl 1 rfl) ?_
    refine lv_iload hx hb dd_L_law_925 (lv_at hl 5 rfl) ?_
    refine lv_iconst (v := 1) hx hb dd_L_law_927 (by decide) ?_
    refine lv_iadd hx hb dd_L_law_928 ?_
    refine va_sld hx hb hX hbl hbA hw.2.2 hv1 dd_L_law_929 ?_
    refine lv_aload_n hx hb dd_L_law_930 rfl (lv_at hl 1 rfl) ?_
    refine lv_iload hx hb dd_L_law_931 (lv_at hl 5 rfl) ?_
    refine lv_iconst (v := 2) hx hb dd_L_law_933 (by decide) ?_
    refine lv_iadd hx hb dd_L_law_934 ?_
    refine va_sld hx hb hX hbl hbA hw.2.2 hv2 dd_L_law_935 ?_
    refine lv_aload_n hx hb dd_L_law_936 rfl (lv_at hl 1 rfl) ?_
    refine lv_iload hx hb dd_L_law_937 (lv_at hl 5 rfl) ?_
    refine lv_iconst (v := 3) hx hb dd_L_law_939 (by decide) ?_
    refine lv_iadd hx hb dd_L_law_940 ?_
    refine va_sld hx hb hX hbl hbA hw.2.2 hv3 dd_L_law_941 ?_
    refine cx_after (cx_rV (n := 3) (As := [.int (xs (nI i + (1 : Int32)).toNatClampNeg), .int (xs (nI i + (2 : Int32)).toNatClampNeg), .int (xs (nI i + (3 : Int32)).toNatClampNeg)]) (rest := []) ⟨hx, hb, hml, hown, hg⟩ hM (cx_gv gm_L_135 gi_M_both gs_M_both gn_M gc_M_both) (by decide +kernel) ⟨by decide, by decide⟩ hK hw hv rfl rfl hl.1 rfl (Nat.le_of_ble_eq_true rfl) dd_L_law_942 ⟨Nat.le_trans (by dsimp only; omega) hcs.1, Nat.le_trans (by dsimp only; omega) hcs.2⟩) hw (fun v9 P3 H locs hp hw => ?_)
    obtain ⟨rfl, hI, hao⟩ := hE _ _ hp
    refine W.eq (g2 := F0 m 945 ls [.int r]) rfl ?_
    refine lv_istore (lv' := [(6, .int r), (5, .int (0 : Int32)), (0, .ref b), (1, .ref h0), (2, .ref hm), (3, .ref ao), (4, .int (nI i))]) hx hb dd_L_law_945 hl (by decide) rfl (fun ls hl => ?_)
    refine lv_aload_n hx hb dd_L_law_947 rfl (lv_at hl 4 rfl) ?_
    obtain ⟨vs9, hv9, hM9⟩ := iv_thr (l := l) (z := z) (D := D) (sa := sa) hI
    refine cx_after (cx_rV (n := 0) (As := []) (rest := []) ⟨hx, hb, hml, hown, hg⟩ hM9 (cx_gv gm_L_90 gi_M_thrown gs_M_thrown gn_M gc_M_thrown) (by decide +kernel) ⟨by decide, by decide⟩ hK hw hv9 rfl rfl hl.1 rfl (Nat.le_of_ble_eq_true rfl) dd_L_law_948 ⟨Nat.le_trans (by dsimp only; omega) hcs.1, Nat.le_trans (by dsimp only; omega) hcs.2⟩) hw (fun v9 P9 H locs hp hw => ?_)
    obtain ⟨rfl, e9⟩ := hp
    rw [e9] at hw
    clear e9 P9
    refine W.eq (g2 := F0 m 951 ls [.int (0 : Int32)]) rfl ?_
    refine lv_iload hx hb dd_L_law_951 (lv_at hl 1 rfl) ?_
    refine lv_icmp_eq (tgt := 958) hx hb dd_L_law_953 (by decide) (fun c1 => ?_) (fun c1 => absurd (by decide) c1)
    refine lv_iload hx hb dd_L_law_958 (lv_at hl 1 rfl) ?_
    refine lv_if_ne (tgt := 975) hx hb dd_L_law_960 (by decide) (fun c2 => absurd (by decide) c2) (fun c2 => ?_)
    refine lv_aload_n hx hb dd_L_law_963 rfl (lv_at hl 5 rfl) ?_
    refine lv_iconst (v := 0) hx hb dd_L_law_964 (by decide) ?_
    refine pm_lald hx hb hK.2.1 hw 1 hao rfl (show vp_in (0 : Int32) 1 from vp_in_nI (n := 0) (by decide) (by decide)) dd_L_law_965 ?_
    refine lv_iload hx hb dd_L_law_966 (lv_at hl 0 rfl) ?_
    refine lv_i2l hx hb dd_L_law_968 rfl ?_
    refine W.lcmp hx hb dd_L_law_969 ?_
    refine lv_if_eq (tgt := 975) hx hb dd_L_law_970 (by decide) (fun c3 => ?_) (fun c3 => absurd (lw_cmp rfl) c3)
    refine lv_goto (tgt := 1454) hx hb dd_L_law_975 (by decide) ?_
    refine W.widen (k := cells + 16) (n := slots + 64) (by dsimp only; omega) (by dsimp only; omega) ?_
    exact kk P3 0 H _ ls hI hw (lv_sub hl [2, 3, 4, 5, 6] rfl)
  · skip
    obtain ⟨cd, hcd, vs, mp, hv, hM, hE⟩ := hF _ _ hp
    have hcd : cd = 1 := by
      rcases hcd with ⟨q, h⟩ | ⟨q, h⟩ | ⟨q, h⟩ | ⟨q, h⟩ <;> first | exact h | exact absurd q (by decide +kernel)
    subst hcd
    refine W.eq (g2 := F0 m 921 ls [.int (1 : Int32)]) rfl ?_
    refine lv_istore (lv' := [(5, .int (1 : Int32)), (0, .ref b), (1, .ref h0), (2, .ref hm), (3, .ref ao), (4, .int (nI i))]) hx hb dd_L_law_921 hl (by decide) rfl (fun ls hl => ?_)
    refine lv_aload_n hx hb dd_L_law_923 rfl (lv_at hl 3 rfl) ?_
    refine lv_aload_n hx hb dd_L_law_924 rfl (lv_at hl 1 rfl) ?_
    refine lv_iload hx hb dd_L_law_925 (lv_at hl 5 rfl) ?_
    refine lv_iconst (v := 1) hx hb dd_L_law_927 (by decide) ?_
    refine lv_iadd hx hb dd_L_law_928 ?_
    refine va_sld hx hb hX hbl hbA hw.2.2 hv1 dd_L_law_929 ?_
    refine lv_aload_n hx hb dd_L_law_930 rfl (lv_at hl 1 rfl) ?_
    refine lv_iload hx hb dd_L_law_931 (lv_at hl 5 rfl) ?_
    refine lv_iconst (v := 2) hx hb dd_L_law_933 (by decide) ?_
    refine lv_iadd hx hb dd_L_law_934 ?_
    refine va_sld hx hb hX hbl hbA hw.2.2 hv2 dd_L_law_935 ?_
    refine lv_aload_n hx hb dd_L_law_936 rfl (lv_at hl 1 rfl) ?_
    refine lv_iload hx hb dd_L_law_937 (lv_at hl 5 rfl) ?_
    refine lv_iconst (v := 3) hx hb dd_L_law_939 (by decide) ?_
    refine lv_iadd hx hb dd_L_law_940 ?_
    refine va_sld hx hb hX hbl hbA hw.2.2 hv3 dd_L_law_941 ?_
    refine cx_after (cx_rV (n := 3) (As := [.int (xs (nI i + (1 : Int32)).toNatClampNeg), .int (xs (nI i + (2 : Int32)).toNatClampNeg), .int (xs (nI i + (3 : Int32)).toNatClampNeg)]) (rest := []) ⟨hx, hb, hml, hown, hg⟩ hM (cx_gv gm_L_135 gi_M_both gs_M_both gn_M gc_M_both) (by decide +kernel) ⟨by decide, by decide⟩ hK hw hv rfl rfl hl.1 rfl (Nat.le_of_ble_eq_true rfl) dd_L_law_942 ⟨Nat.le_trans (by dsimp only; omega) hcs.1, Nat.le_trans (by dsimp only; omega) hcs.2⟩) hw (fun v9 P3 H locs hp hw => ?_)
    obtain ⟨⟨b9, rfl⟩, hI⟩ := hE _ _ hp
    refine W.eq (g2 := F0 m 945 ls [.int b9]) rfl ?_
    refine lv_istore (lv' := [(6, .int b9), (5, .int (1 : Int32)), (0, .ref b), (1, .ref h0), (2, .ref hm), (3, .ref ao), (4, .int (nI i))]) hx hb dd_L_law_945 hl (by decide) rfl (fun ls hl => ?_)
    refine lv_aload_n hx hb dd_L_law_947 rfl (lv_at hl 4 rfl) ?_
    obtain ⟨vs9, hv9, hM9⟩ := iv_thr (l := l) (z := z) (D := D) (sa := sa) hI
    refine cx_after (cx_rV (n := 0) (As := []) (rest := []) ⟨hx, hb, hml, hown, hg⟩ hM9 (cx_gv gm_L_90 gi_M_thrown gs_M_thrown gn_M gc_M_thrown) (by decide +kernel) ⟨by decide, by decide⟩ hK hw hv9 rfl rfl hl.1 rfl (Nat.le_of_ble_eq_true rfl) dd_L_law_948 ⟨Nat.le_trans (by dsimp only; omega) hcs.1, Nat.le_trans (by dsimp only; omega) hcs.2⟩) hw (fun v9 P9 H locs hp hw => ?_)
    obtain ⟨rfl, e9⟩ := hp
    rw [e9] at hw
    clear e9 P9
    refine W.eq (g2 := F0 m 951 ls [.int (1 : Int32)]) rfl ?_
    refine lv_iload hx hb dd_L_law_951 (lv_at hl 1 rfl) ?_
    refine lv_icmp_eq (tgt := 958) hx hb dd_L_law_953 (by decide) (fun c4 => ?_) (fun c4 => absurd (by decide) c4)
    refine lv_iload hx hb dd_L_law_958 (lv_at hl 1 rfl) ?_
    refine lv_if_ne (tgt := 975) hx hb dd_L_law_960 (by decide) (fun c5 => ?_) (fun c5 => absurd c5 (by decide))
    refine lv_goto (tgt := 1454) hx hb dd_L_law_975 (by decide) ?_
    refine W.widen (k := cells + 16) (n := slots + 64) (by dsimp only; omega) (by dsimp only; omega) ?_
    exact kk P3 1 H _ ls hI hw (lv_sub hl [2, 3, 4, 5, 6] rfl)
  · skip
    obtain ⟨cd, hcd, vs, mp, hv, hM, hE⟩ := hF _ _ hp
    have hcd : cd = 2 := by
      rcases hcd with ⟨q, h⟩ | ⟨q, h⟩ | ⟨q, h⟩ | ⟨q, h⟩ <;> first | exact h | exact absurd q (by decide +kernel)
    subst hcd
    refine W.eq (g2 := F0 m 921 ls [.int (2 : Int32)]) rfl ?_
    refine lv_istore (lv' := [(5, .int (2 : Int32)), (0, .ref b), (1, .ref h0), (2, .ref hm), (3, .ref ao), (4, .int (nI i))]) hx hb dd_L_law_921 hl (by decide) rfl (fun ls hl => ?_)
    refine lv_aload_n hx hb dd_L_law_923 rfl (lv_at hl 3 rfl) ?_
    refine lv_aload_n hx hb dd_L_law_924 rfl (lv_at hl 1 rfl) ?_
    refine lv_iload hx hb dd_L_law_925 (lv_at hl 5 rfl) ?_
    refine lv_iconst (v := 1) hx hb dd_L_law_927 (by decide) ?_
    refine lv_iadd hx hb dd_L_law_928 ?_
    refine va_sld hx hb hX hbl hbA hw.2.2 hv1 dd_L_law_929 ?_
    refine lv_aload_n hx hb dd_L_law_930 rfl (lv_at hl 1 rfl) ?_
    refine lv_iload hx hb dd_L_law_931 (lv_at hl 5 rfl) ?_
    refine lv_iconst (v := 2) hx hb dd_L_law_933 (by decide) ?_
    refine lv_iadd hx hb dd_L_law_934 ?_
    refine va_sld hx hb hX hbl hbA hw.2.2 hv2 dd_L_law_935 ?_
    refine lv_aload_n hx hb dd_L_law_936 rfl (lv_at hl 1 rfl) ?_
    refine lv_iload hx hb dd_L_law_937 (lv_at hl 5 rfl) ?_
    refine lv_iconst (v := 3) hx hb dd_L_law_939 (by decide) ?_
    refine lv_iadd hx hb dd_L_law_940 ?_
    refine va_sld hx hb hX hbl hbA hw.2.2 hv3 dd_L_law_941 ?_
    refine cx_after (cx_rV (n := 3) (As := [.int (xs (nI i + (1 : Int32)).toNatClampNeg), .int (xs (nI i + (2 : Int32)).toNatClampNeg), .int (xs (nI i + (3 : Int32)).toNatClampNeg)]) (rest := []) ⟨hx, hb, hml, hown, hg⟩ hM (cx_gv gm_L_135 gi_M_both gs_M_both gn_M gc_M_both) (by decide +kernel) ⟨by decide, by decide⟩ hK hw hv rfl rfl hl.1 rfl (Nat.le_of_ble_eq_true rfl) dd_L_law_942 ⟨Nat.le_trans (by dsimp only; omega) hcs.1, Nat.le_trans (by dsimp only; omega) hcs.2⟩) hw (fun v9 P3 H locs hp hw => ?_)
    obtain ⟨⟨b9, rfl⟩, hI⟩ := hE _ _ hp
    refine W.eq (g2 := F0 m 945 ls [.int b9]) rfl ?_
    refine lv_istore (lv' := [(6, .int b9), (5, .int (2 : Int32)), (0, .ref b), (1, .ref h0), (2, .ref hm), (3, .ref ao), (4, .int (nI i))]) hx hb dd_L_law_945 hl (by decide) rfl (fun ls hl => ?_)
    refine lv_aload_n hx hb dd_L_law_947 rfl (lv_at hl 4 rfl) ?_
    obtain ⟨vs9, hv9, hM9⟩ := iv_thr (l := l) (z := z) (D := D) (sa := sa) hI
    refine cx_after (cx_rV (n := 0) (As := []) (rest := []) ⟨hx, hb, hml, hown, hg⟩ hM9 (cx_gv gm_L_90 gi_M_thrown gs_M_thrown gn_M gc_M_thrown) (by decide +kernel) ⟨by decide, by decide⟩ hK hw hv9 rfl rfl hl.1 rfl (Nat.le_of_ble_eq_true rfl) dd_L_law_948 ⟨Nat.le_trans (by dsimp only; omega) hcs.1, Nat.le_trans (by dsimp only; omega) hcs.2⟩) hw (fun v9 P9 H locs hp hw => ?_)
    obtain ⟨rfl, e9⟩ := hp
    rw [e9] at hw
    clear e9 P9
    refine W.eq (g2 := F0 m 951 ls [.int (2 : Int32)]) rfl ?_
    refine lv_iload hx hb dd_L_law_951 (lv_at hl 1 rfl) ?_
    refine lv_icmp_eq (tgt := 958) hx hb dd_L_law_953 (by decide) (fun c6 => ?_) (fun c6 => absurd (by decide) c6)
    refine lv_iload hx hb dd_L_law_958 (lv_at hl 1 rfl) ?_
    refine lv_if_ne (tgt := 975) hx hb dd_L_law_960 (by decide) (fun c7 => ?_) (fun c7 => absurd c7 (by decide))
    refine lv_goto (tgt := 1454) hx hb dd_L_law_975 (by decide) ?_
    refine W.widen (k := cells + 16) (n := slots + 64) (by dsimp only; omega) (by dsimp only; omega) ?_
    exact kk P3 2 H _ ls hI hw (lv_sub hl [2, 3, 4, 5, 6] rfl)
  · skip
    obtain ⟨cd, hcd, vs, mp, hv, hM, hE⟩ := hF _ _ hp
    have hcd : cd = 3 := by
      rcases hcd with ⟨q, h⟩ | ⟨q, h⟩ | ⟨q, h⟩ | ⟨q, h⟩ <;> first | exact h | exact absurd q (by decide +kernel)
    subst hcd
    refine W.eq (g2 := F0 m 921 ls [.int (3 : Int32)]) rfl ?_
    refine lv_istore (lv' := [(5, .int (3 : Int32)), (0, .ref b), (1, .ref h0), (2, .ref hm), (3, .ref ao), (4, .int (nI i))]) hx hb dd_L_law_921 hl (by decide) rfl (fun ls hl => ?_)
    refine lv_aload_n hx hb dd_L_law_923 rfl (lv_at hl 3 rfl) ?_
    refine lv_aload_n hx hb dd_L_law_924 rfl (lv_at hl 1 rfl) ?_
    refine lv_iload hx hb dd_L_law_925 (lv_at hl 5 rfl) ?_
    refine lv_iconst (v := 1) hx hb dd_L_law_927 (by decide) ?_
    refine lv_iadd hx hb dd_L_law_928 ?_
    refine va_sld hx hb hX hbl hbA hw.2.2 hv1 dd_L_law_929 ?_
    refine lv_aload_n hx hb dd_L_law_930 rfl (lv_at hl 1 rfl) ?_
    refine lv_iload hx hb dd_L_law_931 (lv_at hl 5 rfl) ?_
    refine lv_iconst (v := 2) hx hb dd_L_law_933 (by decide) ?_
    refine lv_iadd hx hb dd_L_law_934 ?_
    refine va_sld hx hb hX hbl hbA hw.2.2 hv2 dd_L_law_935 ?_
    refine lv_aload_n hx hb dd_L_law_936 rfl (lv_at hl 1 rfl) ?_
    refine lv_iload hx hb dd_L_law_937 (lv_at hl 5 rfl) ?_
    refine lv_iconst (v := 3) hx hb dd_L_law_939 (by decide) ?_
    refine lv_iadd hx hb dd_L_law_940 ?_
    refine va_sld hx hb hX hbl hbA hw.2.2 hv3 dd_L_law_941 ?_
    refine cx_after (cx_rV (n := 3) (As := [.int (xs (nI i + (1 : Int32)).toNatClampNeg), .int (xs (nI i + (2 : Int32)).toNatClampNeg), .int (xs (nI i + (3 : Int32)).toNatClampNeg)]) (rest := []) ⟨hx, hb, hml, hown, hg⟩ hM (cx_gv gm_L_135 gi_M_both gs_M_both gn_M gc_M_both) (by decide +kernel) ⟨by decide, by decide⟩ hK hw hv rfl rfl hl.1 rfl (Nat.le_of_ble_eq_true rfl) dd_L_law_942 ⟨Nat.le_trans (by dsimp only; omega) hcs.1, Nat.le_trans (by dsimp only; omega) hcs.2⟩) hw (fun v9 P3 H locs hp hw => ?_)
    obtain ⟨⟨b9, rfl⟩, hI⟩ := hE _ _ hp
    refine W.eq (g2 := F0 m 945 ls [.int b9]) rfl ?_
    refine lv_istore (lv' := [(6, .int b9), (5, .int (3 : Int32)), (0, .ref b), (1, .ref h0), (2, .ref hm), (3, .ref ao), (4, .int (nI i))]) hx hb dd_L_law_945 hl (by decide) rfl (fun ls hl => ?_)
    refine lv_aload_n hx hb dd_L_law_947 rfl (lv_at hl 4 rfl) ?_
    obtain ⟨vs9, hv9, hM9⟩ := iv_thr (l := l) (z := z) (D := D) (sa := sa) hI
    refine cx_after (cx_rV (n := 0) (As := []) (rest := []) ⟨hx, hb, hml, hown, hg⟩ hM9 (cx_gv gm_L_90 gi_M_thrown gs_M_thrown gn_M gc_M_thrown) (by decide +kernel) ⟨by decide, by decide⟩ hK hw hv9 rfl rfl hl.1 rfl (Nat.le_of_ble_eq_true rfl) dd_L_law_948 ⟨Nat.le_trans (by dsimp only; omega) hcs.1, Nat.le_trans (by dsimp only; omega) hcs.2⟩) hw (fun v9 P9 H locs hp hw => ?_)
    obtain ⟨rfl, e9⟩ := hp
    rw [e9] at hw
    clear e9 P9
    refine W.eq (g2 := F0 m 951 ls [.int (3 : Int32)]) rfl ?_
    refine lv_iload hx hb dd_L_law_951 (lv_at hl 1 rfl) ?_
    refine lv_icmp_eq (tgt := 958) hx hb dd_L_law_953 (by decide) (fun c8 => ?_) (fun c8 => absurd (by decide) c8)
    refine lv_iload hx hb dd_L_law_958 (lv_at hl 1 rfl) ?_
    refine lv_if_ne (tgt := 975) hx hb dd_L_law_960 (by decide) (fun c9 => ?_) (fun c9 => absurd c9 (by decide))
    refine lv_goto (tgt := 1454) hx hb dd_L_law_975 (by decide) ?_
    refine W.widen (k := cells + 16) (n := slots + 64) (by dsimp only; omega) (by dsimp only; omega) ?_
    exact kk P3 3 H _ ls hI hw (lv_sub hl [2, 3, 4, 5, 6] rfl)
  · skip
    obtain ⟨cd, hcd, vs, mp, hv, hM, hE⟩ := hF _ _ hp
    have hcd : cd = 4 := by
      rcases hcd with ⟨q, h⟩ | ⟨q, h⟩ | ⟨q, h⟩ | ⟨q, h⟩ <;> first | exact h | exact absurd q (by decide +kernel)
    subst hcd
    refine W.eq (g2 := F0 m 921 ls [.int (4 : Int32)]) rfl ?_
    refine lv_istore (lv' := [(5, .int (4 : Int32)), (0, .ref b), (1, .ref h0), (2, .ref hm), (3, .ref ao), (4, .int (nI i))]) hx hb dd_L_law_921 hl (by decide) rfl (fun ls hl => ?_)
    refine lv_aload_n hx hb dd_L_law_923 rfl (lv_at hl 3 rfl) ?_
    refine lv_aload_n hx hb dd_L_law_924 rfl (lv_at hl 1 rfl) ?_
    refine lv_iload hx hb dd_L_law_925 (lv_at hl 5 rfl) ?_
    refine lv_iconst (v := 1) hx hb dd_L_law_927 (by decide) ?_
    refine lv_iadd hx hb dd_L_law_928 ?_
    refine va_sld hx hb hX hbl hbA hw.2.2 hv1 dd_L_law_929 ?_
    refine lv_aload_n hx hb dd_L_law_930 rfl (lv_at hl 1 rfl) ?_
    refine lv_iload hx hb dd_L_law_931 (lv_at hl 5 rfl) ?_
    refine lv_iconst (v := 2) hx hb dd_L_law_933 (by decide) ?_
    refine lv_iadd hx hb dd_L_law_934 ?_
    refine va_sld hx hb hX hbl hbA hw.2.2 hv2 dd_L_law_935 ?_
    refine lv_aload_n hx hb dd_L_law_936 rfl (lv_at hl 1 rfl) ?_
    refine lv_iload hx hb dd_L_law_937 (lv_at hl 5 rfl) ?_
    refine lv_iconst (v := 3) hx hb dd_L_law_939 (by decide) ?_
    refine lv_iadd hx hb dd_L_law_940 ?_
    refine va_sld hx hb hX hbl hbA hw.2.2 hv3 dd_L_law_941 ?_
    refine cx_after (cx_rV (n := 3) (As := [.int (xs (nI i + (1 : Int32)).toNatClampNeg), .int (xs (nI i + (2 : Int32)).toNatClampNeg), .int (xs (nI i + (3 : Int32)).toNatClampNeg)]) (rest := []) ⟨hx, hb, hml, hown, hg⟩ hM (cx_gv gm_L_135 gi_M_both gs_M_both gn_M gc_M_both) (by decide +kernel) ⟨by decide, by decide⟩ hK hw hv rfl rfl hl.1 rfl (Nat.le_of_ble_eq_true rfl) dd_L_law_942 ⟨Nat.le_trans (by dsimp only; omega) hcs.1, Nat.le_trans (by dsimp only; omega) hcs.2⟩) hw (fun v9 P3 H locs hp hw => ?_)
    obtain ⟨⟨b9, rfl⟩, hI⟩ := hE _ _ hp
    refine W.eq (g2 := F0 m 945 ls [.int b9]) rfl ?_
    refine lv_istore (lv' := [(6, .int b9), (5, .int (4 : Int32)), (0, .ref b), (1, .ref h0), (2, .ref hm), (3, .ref ao), (4, .int (nI i))]) hx hb dd_L_law_945 hl (by decide) rfl (fun ls hl => ?_)
    refine lv_aload_n hx hb dd_L_law_947 rfl (lv_at hl 4 rfl) ?_
    obtain ⟨vs9, hv9, hM9⟩ := iv_thr (l := l) (z := z) (D := D) (sa := sa) hI
    refine cx_after (cx_rV (n := 0) (As := []) (rest := []) ⟨hx, hb, hml, hown, hg⟩ hM9 (cx_gv gm_L_90 gi_M_thrown gs_M_thrown gn_M gc_M_thrown) (by decide +kernel) ⟨by decide, by decide⟩ hK hw hv9 rfl rfl hl.1 rfl (Nat.le_of_ble_eq_true rfl) dd_L_law_948 ⟨Nat.le_trans (by dsimp only; omega) hcs.1, Nat.le_trans (by dsimp only; omega) hcs.2⟩) hw (fun v9 P9 H locs hp hw => ?_)
    obtain ⟨rfl, e9⟩ := hp
    rw [e9] at hw
    clear e9 P9
    refine W.eq (g2 := F0 m 951 ls [.int (4 : Int32)]) rfl ?_
    refine lv_iload hx hb dd_L_law_951 (lv_at hl 1 rfl) ?_
    refine lv_icmp_eq (tgt := 958) hx hb dd_L_law_953 (by decide) (fun c10 => ?_) (fun c10 => absurd (by decide) c10)
    refine lv_iload hx hb dd_L_law_958 (lv_at hl 1 rfl) ?_
    refine lv_if_ne (tgt := 975) hx hb dd_L_law_960 (by decide) (fun c11 => ?_) (fun c11 => absurd c11 (by decide))
    refine lv_goto (tgt := 1454) hx hb dd_L_law_975 (by decide) ?_
    refine W.widen (k := cells + 16) (n := slots + 64) (by dsimp only; omega) (by dsimp only; omega) ?_
    exact kk P3 4 H _ ls hI hw (lv_sub hl [2, 3, 4, 5, 6] rfl)

set_option maxHeartbeats 4000000 in
set_option maxRecDepth 100000 in
theorem lw_c12 {p : Program} {l : Launch} {e : Env} {s : State} {m : MethodId} {below : List Frame} {meth : Method} {c : Code} {b L : Nat} {xs : Nat → Int32} {z : Nat} {D : va_G} {ac : Nat → ClassId} {sa : Nat → Nat} {Q : State → Prop} (hT : l.stackTraces = false) (hL : L ≤ 3072) (C0 : lw_B p s m c b L xs z D ac sa) {i : Nat} (hi : i + 6 ≤ L) {h0 hm ao : Nat} {P : pm_T} {th : Int32} {H : Heap} {locs : List Loc} {ls : Array Slot} {cells slots : Nat} (hcs : cells + 16 ≤ room_1.cells ∧ slots + 64 ≤ room_1.slots) (hI : iv_I P ac h0 hm ao th) (hw : pm_W z D cl_w P s.heap H locs) (hl : lv_has ls 7 [(0, .ref b), (1, .ref h0), (2, .ref hm), (3, .ref ao), (4, .int (nI i))]) (kk : ∀ (P : pm_T) (th : Int32) (H : Heap) (locs : List Loc) (ls : Array Slot), iv_I P ac h0 hm ao th → pm_W z D cl_w P s.heap H locs → lv_has ls 7 [(0, .ref b), (1, .ref h0), (2, .ref hm), (3, .ref ao), (4, .int (nI i))] → W p l e room_1 s m #[Value.ref b] below meth c H locs (cells + 16) (slots + 64) Q (F0 m 1454 ls [])) : W p l e room_1 s m #[Value.ref b] below meth c H locs cells slots Q (F0 m 978 ls []) := by
  obtain ⟨hx, hb, hml, hown, hg, hX, hbl, hbA, hK⟩ := C0
  have hv1 : vp_in (nI i + (1 : Int32)) L := lw_in (k := 1) rfl hL (by omega)
  have hv2 : vp_in (nI i + (2 : Int32)) L := lw_in (k := 2) rfl hL (by omega)
  have hv3 : vp_in (nI i + (3 : Int32)) L := lw_in (k := 3) rfl hL (by omega)
  have hv4 : vp_in (nI i + (4 : Int32)) L := lw_in (k := 4) rfl hL (by omega)
  have hv5 : vp_in (nI i + (5 : Int32)) L := lw_in (k := 5) rfl hL (by omega)
  refine lv_aload_n hx hb dd_L_law_978 rfl (lv_at hl 1 rfl) ?_
  refine lv_aload_n hx hb dd_L_law_979 rfl (lv_at hl 0 rfl) ?_
  refine lv_iload hx hb dd_L_law_980 (lv_at hl 4 rfl) ?_
  refine lv_iconst (v := 1) hx hb dd_L_law_982 (by decide) ?_
  refine lv_iadd hx hb dd_L_law_983 ?_
  refine va_sld hx hb hX hbl hbA hw.2.2 hv1 dd_L_law_984 ?_
  refine lv_aload_n hx hb dd_L_law_985 rfl (lv_at hl 0 rfl) ?_
  refine lv_iload hx hb dd_L_law_986 (lv_at hl 4 rfl) ?_
  refine lv_iconst (v := 2) hx hb dd_L_law_988 (by decide) ?_
  refine lv_iadd hx hb dd_L_law_989 ?_
  refine va_sld hx hb hX hbl hbA hw.2.2 hv2 dd_L_law_990 ?_
  refine lv_aload_n hx hb dd_L_law_991 rfl (lv_at hl 0 rfl) ?_
  refine lv_iload hx hb dd_L_law_992 (lv_at hl 4 rfl) ?_
  refine lv_iconst (v := 3) hx hb dd_L_law_994 (by decide) ?_
  refine lv_iadd hx hb dd_L_law_995 ?_
  refine va_sld hx hb hX hbl hbA hw.2.2 hv3 dd_L_law_996 ?_
  refine lv_aload_n hx hb dd_L_law_997 rfl (lv_at hl 0 rfl) ?_
  refine lv_iload hx hb dd_L_law_998 (lv_at hl 4 rfl) ?_
  refine lv_iconst (v := 4) hx hb dd_L_law_1000 (by decide) ?_
  refine lv_iadd hx hb dd_L_law_1001 ?_
  refine va_sld hx hb hX hbl hbA hw.2.2 hv4 dd_L_law_1002 ?_
  refine lv_aload_n hx hb dd_L_law_1003 rfl (lv_at hl 0 rfl) ?_
  refine lv_iload hx hb dd_L_law_1004 (lv_at hl 4 rfl) ?_
  refine lv_iconst (v := 5) hx hb dd_L_law_1006 (by decide) ?_
  refine lv_iadd hx hb dd_L_law_1007 ?_
  refine va_sld hx hb hX hbl hbA hw.2.2 hv5 dd_L_law_1008 ?_
  refine lv_aload_n hx hb dd_L_law_1009 rfl (lv_at hl 3 rfl) ?_
  obtain ⟨fs, post, xp, f0, hC, hS, hF⟩ := st_supply l hT z D ac sa P h0 hm ao th (xs (nI i + (1 : Int32)).toNatClampNeg) (xs (nI i + (2 : Int32)).toNatClampNeg) (xs (nI i + (3 : Int32)).toNatClampNeg) (xs (nI i + (4 : Int32)).toNatClampNeg) (xs (nI i + (5 : Int32)).toNatClampNeg) hI
  refine cx_afterX (cx_rSH (n := 7) (As := [.ref h0, .int (xs (nI i + (1 : Int32)).toNatClampNeg), .int (xs (nI i + (2 : Int32)).toNatClampNeg), .int (xs (nI i + (3 : Int32)).toNatClampNeg), .int (xs (nI i + (4 : Int32)).toNatClampNeg), .int (xs (nI i + (5 : Int32)).toNatClampNeg), .ref ao]) (rest := []) ⟨hx, hb, hml, hown, hg⟩ (w_supply l z D ac sa P h0 ao fs (xs (nI i + (1 : Int32)).toNatClampNeg) (xs (nI i + (2 : Int32)).toNatClampNeg) (xs (nI i + (3 : Int32)).toNatClampNeg) (xs (nI i + (4 : Int32)).toNatClampNeg) (xs (nI i + (5 : Int32)).toNatClampNeg) post xp hC (fun v P1 h => (hS v P1 h).elim (fun r h => h.elim (fun fo h => ⟨r, fo, h.1, h.2.1⟩))) (fun E P1 h => (hF E P1 h).elim (fun cd h => h.1.1)) f0) gch_L_supply gm_L_136 gt_L_supply gn_L (by decide +kernel) ⟨by decide, by decide⟩ hK hw rfl hl.1 rfl (Nat.le_of_ble_eq_true rfl) dd_L_law_1010 ⟨Nat.le_trans (by dsimp only; omega) hcs.1, Nat.le_trans (by dsimp only; omega) hcs.2⟩) hw (fun E9 ce9 q9 P9 H locs hp hw hce hcv hcl => hp.elim) (fun v9 P9 H locs hp hw => ?_)
  rcases hp with ⟨r, P1, fo, hp, fo9, rfl, e9⟩ | ⟨hp, rfl⟩
  · skip
    rw [e9] at hw
    clear e9 P9
    obtain ⟨r1, fo1, e1, -, hN⟩ := hS _ _ hp
    have e1 : r = r1 := Value.int.inj (Option.some.inj e1)
    subst e1
    obtain ⟨vs, mp, hv, hM, hE⟩ := hN (vp_updL fo 0 r.toInt64)
    refine W.eq (g2 := F0 m 1013 ls [.int (0 : Int32)]) rfl ?_
    refine lv_istore (lv' := [(5, .int (0 : Int32)), (0, .ref b), (1, .ref h0), (2, .ref hm), (3, .ref ao), (4, .int (nI i))]) hx hb dd_L_law_1013 hl (by decide) rfl (fun ls hl => ?_)
    refine lv_aload_n hx hb dd_L_law_1015 rfl (lv_at hl 3 rfl) ?_
    refine lv_aload_n hx hb dd_L_law_1016 rfl (lv_at hl 1 rfl) ?_
    refine lv_iload hx hb dd_L_law_1017 (lv_at hl 5 rfl) ?_
    refine lv_iconst (v := 1) hx hb dd_L_law_1019 (by decide) ?_
    refine lv_iadd hx hb dd_L_law_1020 ?_
    refine va_sld hx hb hX hbl hbA hw.2.2 hv1 dd_L_law_1021 ?_
    refine lv_aload_n hx hb dd_L_law_1022 rfl (lv_at hl 1 rfl) ?_
    refine lv_iload hx hb dd_L_law_1023 (lv_at hl 5 rfl) ?_
    refine lv_iconst (v := 2) hx hb dd_L_law_1025 (by decide) ?_
    refine lv_iadd hx hb dd_L_law_1026 ?_
    refine va_sld hx hb hX hbl hbA hw.2.2 hv2 dd_L_law_1027 ?_
    refine lv_aload_n hx hb dd_L_law_1028 rfl (lv_at hl 1 rfl) ?_
    refine lv_iload hx hb dd_L_law_1029 (lv_at hl 5 rfl) ?_
    refine lv_iconst (v := 3) hx hb dd_L_law_1031 (by decide) ?_
    refine lv_iadd hx hb dd_L_law_1032 ?_
    refine va_sld hx hb hX hbl hbA hw.2.2 hv3 dd_L_law_1033 ?_
    refine lv_aload_n hx hb dd_L_law_1034 rfl (lv_at hl 1 rfl) ?_
    refine lv_iload hx hb dd_L_law_1035 (lv_at hl 5 rfl) ?_
    refine lv_iconst (v := 4) hx hb dd_L_law_1037 (by decide) ?_
    refine lv_iadd hx hb dd_L_law_1038 ?_
    refine va_sld hx hb hX hbl hbA hw.2.2 hv4 dd_L_law_1039 ?_
    refine lv_aload_n hx hb dd_L_law_1040 rfl (lv_at hl 1 rfl) ?_
    refine lv_iload hx hb dd_L_law_1041 (lv_at hl 5 rfl) ?_
    refine lv_iconst (v := 5) hx hb dd_L_law_1043 (by decide) ?_
    refine lv_iadd hx hb dd_L_law_1044 ?_
    refine va_sld hx hb hX hbl hbA hw.2.2 hv5 dd_L_law_1045 ?_
    refine cx_after (cx_rV (n := 5) (As := [.int (xs (nI i + (1 : Int32)).toNatClampNeg), .int (xs (nI i + (2 : Int32)).toNatClampNeg), .int (xs (nI i + (3 : Int32)).toNatClampNeg), .int (xs (nI i + (4 : Int32)).toNatClampNeg), .int (xs (nI i + (5 : Int32)).toNatClampNeg)]) (rest := []) ⟨hx, hb, hml, hown, hg⟩ hM (cx_gv gm_L_138 gi_M_supply gs_M_supply gn_M gc_M_supply) (by decide +kernel) ⟨by decide, by decide⟩ hK hw hv rfl rfl hl.1 rfl (Nat.le_of_ble_eq_true rfl) dd_L_law_1046 ⟨Nat.le_trans (by dsimp only; omega) hcs.1, Nat.le_trans (by dsimp only; omega) hcs.2⟩) hw (fun v9 P3 H locs hp hw => ?_)
    obtain ⟨rfl, hI, hao⟩ := hE _ _ hp
    refine W.eq (g2 := F0 m 1049 ls [.int r]) rfl ?_
    refine lv_istore (lv' := [(6, .int r), (5, .int (0 : Int32)), (0, .ref b), (1, .ref h0), (2, .ref hm), (3, .ref ao), (4, .int (nI i))]) hx hb dd_L_law_1049 hl (by decide) rfl (fun ls hl => ?_)
    refine lv_aload_n hx hb dd_L_law_1051 rfl (lv_at hl 4 rfl) ?_
    obtain ⟨vs9, hv9, hM9⟩ := iv_thr (l := l) (z := z) (D := D) (sa := sa) hI
    refine cx_after (cx_rV (n := 0) (As := []) (rest := []) ⟨hx, hb, hml, hown, hg⟩ hM9 (cx_gv gm_L_90 gi_M_thrown gs_M_thrown gn_M gc_M_thrown) (by decide +kernel) ⟨by decide, by decide⟩ hK hw hv9 rfl rfl hl.1 rfl (Nat.le_of_ble_eq_true rfl) dd_L_law_1052 ⟨Nat.le_trans (by dsimp only; omega) hcs.1, Nat.le_trans (by dsimp only; omega) hcs.2⟩) hw (fun v9 P9 H locs hp hw => ?_)
    obtain ⟨rfl, e9⟩ := hp
    rw [e9] at hw
    clear e9 P9
    refine W.eq (g2 := F0 m 1055 ls [.int (0 : Int32)]) rfl ?_
    refine lv_iload hx hb dd_L_law_1055 (lv_at hl 1 rfl) ?_
    refine lv_icmp_eq (tgt := 1062) hx hb dd_L_law_1057 (by decide) (fun c1 => ?_) (fun c1 => absurd (by decide) c1)
    refine lv_iload hx hb dd_L_law_1062 (lv_at hl 1 rfl) ?_
    refine lv_if_ne (tgt := 1079) hx hb dd_L_law_1064 (by decide) (fun c2 => absurd (by decide) c2) (fun c2 => ?_)
    refine lv_aload_n hx hb dd_L_law_1067 rfl (lv_at hl 5 rfl) ?_
    refine lv_iconst (v := 0) hx hb dd_L_law_1068 (by decide) ?_
    refine pm_lald hx hb hK.2.1 hw 1 hao rfl (show vp_in (0 : Int32) 1 from vp_in_nI (n := 0) (by decide) (by decide)) dd_L_law_1069 ?_
    refine lv_iload hx hb dd_L_law_1070 (lv_at hl 0 rfl) ?_
    refine lv_i2l hx hb dd_L_law_1072 rfl ?_
    refine W.lcmp hx hb dd_L_law_1073 ?_
    refine lv_if_eq (tgt := 1079) hx hb dd_L_law_1074 (by decide) (fun c3 => ?_) (fun c3 => absurd (lw_cmp rfl) c3)
    refine lv_goto (tgt := 1454) hx hb dd_L_law_1079 (by decide) ?_
    refine W.widen (k := cells + 16) (n := slots + 64) (by dsimp only; omega) (by dsimp only; omega) ?_
    exact kk P3 0 H _ ls hI hw (lv_sub hl [2, 3, 4, 5, 6] rfl)
  · skip
    obtain ⟨cd, hcd, vs, mp, hv, hM, hE⟩ := hF _ _ hp
    have hcd : cd = 1 := hcd.2
    subst hcd
    refine W.eq (g2 := F0 m 1013 ls [.int (1 : Int32)]) rfl ?_
    refine lv_istore (lv' := [(5, .int (1 : Int32)), (0, .ref b), (1, .ref h0), (2, .ref hm), (3, .ref ao), (4, .int (nI i))]) hx hb dd_L_law_1013 hl (by decide) rfl (fun ls hl => ?_)
    refine lv_aload_n hx hb dd_L_law_1015 rfl (lv_at hl 3 rfl) ?_
    refine lv_aload_n hx hb dd_L_law_1016 rfl (lv_at hl 1 rfl) ?_
    refine lv_iload hx hb dd_L_law_1017 (lv_at hl 5 rfl) ?_
    refine lv_iconst (v := 1) hx hb dd_L_law_1019 (by decide) ?_
    refine lv_iadd hx hb dd_L_law_1020 ?_
    refine va_sld hx hb hX hbl hbA hw.2.2 hv1 dd_L_law_1021 ?_
    refine lv_aload_n hx hb dd_L_law_1022 rfl (lv_at hl 1 rfl) ?_
    refine lv_iload hx hb dd_L_law_1023 (lv_at hl 5 rfl) ?_
    refine lv_iconst (v := 2) hx hb dd_L_law_1025 (by decide) ?_
    refine lv_iadd hx hb dd_L_law_1026 ?_
    refine va_sld hx hb hX hbl hbA hw.2.2 hv2 dd_L_law_1027 ?_
    refine lv_aload_n hx hb dd_L_law_1028 rfl (lv_at hl 1 rfl) ?_
    refine lv_iload hx hb dd_L_law_1029 (lv_at hl 5 rfl) ?_
    refine lv_iconst (v := 3) hx hb dd_L_law_1031 (by decide) ?_
    refine lv_iadd hx hb dd_L_law_1032 ?_
    refine va_sld hx hb hX hbl hbA hw.2.2 hv3 dd_L_law_1033 ?_
    refine lv_aload_n hx hb dd_L_law_1034 rfl (lv_at hl 1 rfl) ?_
    refine lv_iload hx hb dd_L_law_1035 (lv_at hl 5 rfl) ?_
    refine lv_iconst (v := 4) hx hb dd_L_law_1037 (by decide) ?_
    refine lv_iadd hx hb dd_L_law_1038 ?_
    refine va_sld hx hb hX hbl hbA hw.2.2 hv4 dd_L_law_1039 ?_
    refine lv_aload_n hx hb dd_L_law_1040 rfl (lv_at hl 1 rfl) ?_
    refine lv_iload hx hb dd_L_law_1041 (lv_at hl 5 rfl) ?_
    refine lv_iconst (v := 5) hx hb dd_L_law_1043 (by decide) ?_
    refine lv_iadd hx hb dd_L_law_1044 ?_
    refine va_sld hx hb hX hbl hbA hw.2.2 hv5 dd_L_law_1045 ?_
    refine cx_after (cx_rV (n := 5) (As := [.int (xs (nI i + (1 : Int32)).toNatClampNeg), .int (xs (nI i + (2 : Int32)).toNatClampNeg), .int (xs (nI i + (3 : Int32)).toNatClampNeg), .int (xs (nI i + (4 : Int32)).toNatClampNeg), .int (xs (nI i + (5 : Int32)).toNatClampNeg)]) (rest := []) ⟨hx, hb, hml, hown, hg⟩ hM (cx_gv gm_L_138 gi_M_supply gs_M_supply gn_M gc_M_supply) (by decide +kernel) ⟨by decide, by decide⟩ hK hw hv rfl rfl hl.1 rfl (Nat.le_of_ble_eq_true rfl) dd_L_law_1046 ⟨Nat.le_trans (by dsimp only; omega) hcs.1, Nat.le_trans (by dsimp only; omega) hcs.2⟩) hw (fun v9 P3 H locs hp hw => ?_)
    obtain ⟨⟨b9, rfl⟩, hI⟩ := hE _ _ hp
    refine W.eq (g2 := F0 m 1049 ls [.int b9]) rfl ?_
    refine lv_istore (lv' := [(6, .int b9), (5, .int (1 : Int32)), (0, .ref b), (1, .ref h0), (2, .ref hm), (3, .ref ao), (4, .int (nI i))]) hx hb dd_L_law_1049 hl (by decide) rfl (fun ls hl => ?_)
    refine lv_aload_n hx hb dd_L_law_1051 rfl (lv_at hl 4 rfl) ?_
    obtain ⟨vs9, hv9, hM9⟩ := iv_thr (l := l) (z := z) (D := D) (sa := sa) hI
    refine cx_after (cx_rV (n := 0) (As := []) (rest := []) ⟨hx, hb, hml, hown, hg⟩ hM9 (cx_gv gm_L_90 gi_M_thrown gs_M_thrown gn_M gc_M_thrown) (by decide +kernel) ⟨by decide, by decide⟩ hK hw hv9 rfl rfl hl.1 rfl (Nat.le_of_ble_eq_true rfl) dd_L_law_1052 ⟨Nat.le_trans (by dsimp only; omega) hcs.1, Nat.le_trans (by dsimp only; omega) hcs.2⟩) hw (fun v9 P9 H locs hp hw => ?_)
    obtain ⟨rfl, e9⟩ := hp
    rw [e9] at hw
    clear e9 P9
    refine W.eq (g2 := F0 m 1055 ls [.int (1 : Int32)]) rfl ?_
    refine lv_iload hx hb dd_L_law_1055 (lv_at hl 1 rfl) ?_
    refine lv_icmp_eq (tgt := 1062) hx hb dd_L_law_1057 (by decide) (fun c4 => ?_) (fun c4 => absurd (by decide) c4)
    refine lv_iload hx hb dd_L_law_1062 (lv_at hl 1 rfl) ?_
    refine lv_if_ne (tgt := 1079) hx hb dd_L_law_1064 (by decide) (fun c5 => ?_) (fun c5 => absurd c5 (by decide))
    refine lv_goto (tgt := 1454) hx hb dd_L_law_1079 (by decide) ?_
    refine W.widen (k := cells + 16) (n := slots + 64) (by dsimp only; omega) (by dsimp only; omega) ?_
    exact kk P3 1 H _ ls hI hw (lv_sub hl [2, 3, 4, 5, 6] rfl)

set_option maxHeartbeats 4000000 in
set_option maxRecDepth 100000 in
theorem lw_c13 {p : Program} {l : Launch} {e : Env} {s : State} {m : MethodId} {below : List Frame} {meth : Method} {c : Code} {b L : Nat} {xs : Nat → Int32} {z : Nat} {D : va_G} {ac : Nat → ClassId} {sa : Nat → Nat} {Q : State → Prop} (hT : l.stackTraces = false) (hL : L ≤ 3072) (C0 : lw_B p s m c b L xs z D ac sa) {i : Nat} (hi : i + 6 ≤ L) {h0 hm ao : Nat} {P : pm_T} {th : Int32} {H : Heap} {locs : List Loc} {ls : Array Slot} {cells slots : Nat} (hcs : cells + 16 ≤ room_1.cells ∧ slots + 64 ≤ room_1.slots) (hI : iv_I P ac h0 hm ao th) (hw : pm_W z D cl_w P s.heap H locs) (hl : lv_has ls 7 [(0, .ref b), (1, .ref h0), (2, .ref hm), (3, .ref ao), (4, .int (nI i))]) (kk : ∀ (P : pm_T) (th : Int32) (H : Heap) (locs : List Loc) (ls : Array Slot), iv_I P ac h0 hm ao th → pm_W z D cl_w P s.heap H locs → lv_has ls 7 [(0, .ref b), (1, .ref h0), (2, .ref hm), (3, .ref ao), (4, .int (nI i))] → W p l e room_1 s m #[Value.ref b] below meth c H locs (cells + 16) (slots + 64) Q (F0 m 1454 ls [])) : W p l e room_1 s m #[Value.ref b] below meth c H locs cells slots Q (F0 m 1082 ls []) := by
  obtain ⟨hx, hb, hml, hown, hg, hX, hbl, hbA, hK⟩ := C0
  have hv1 : vp_in (nI i + (1 : Int32)) L := lw_in (k := 1) rfl hL (by omega)
  have hv2 : vp_in (nI i + (2 : Int32)) L := lw_in (k := 2) rfl hL (by omega)
  have hv3 : vp_in (nI i + (3 : Int32)) L := lw_in (k := 3) rfl hL (by omega)
  have hv4 : vp_in (nI i + (4 : Int32)) L := lw_in (k := 4) rfl hL (by omega)
  have hv5 : vp_in (nI i + (5 : Int32)) L := lw_in (k := 5) rfl hL (by omega)
  refine lv_aload_n hx hb dd_L_law_1082 rfl (lv_at hl 1 rfl) ?_
  refine lv_aload_n hx hb dd_L_law_1083 rfl (lv_at hl 0 rfl) ?_
  refine lv_iload hx hb dd_L_law_1084 (lv_at hl 4 rfl) ?_
  refine lv_iconst (v := 1) hx hb dd_L_law_1086 (by decide) ?_
  refine lv_iadd hx hb dd_L_law_1087 ?_
  refine va_sld hx hb hX hbl hbA hw.2.2 hv1 dd_L_law_1088 ?_
  refine lv_i2l hx hb dd_L_law_1089 rfl ?_
  refine lv_bipush (v := 32) hx hb dd_L_law_1090 (by decide) ?_
  refine lv_lshl hx hb dd_L_law_1092 rfl ?_
  refine lv_aload_n hx hb dd_L_law_1093 rfl (lv_at hl 0 rfl) ?_
  refine lv_iload hx hb dd_L_law_1094 (lv_at hl 4 rfl) ?_
  refine lv_iconst (v := 2) hx hb dd_L_law_1096 (by decide) ?_
  refine lv_iadd hx hb dd_L_law_1097 ?_
  refine va_sld hx hb hX hbl hbA hw.2.2 hv2 dd_L_law_1098 ?_
  refine lv_i2l hx hb dd_L_law_1099 rfl ?_
  refine lv_ldc2 (v := (4294967295)) hx hb hown (hg _ gq_L_139) dd_L_law_1100 ?_
  refine lv_land hx hb dd_L_law_1103 ?_
  refine lv_lor hx hb dd_L_law_1104 ?_
  refine lv_aload_n hx hb dd_L_law_1105 rfl (lv_at hl 0 rfl) ?_
  refine lv_iload hx hb dd_L_law_1106 (lv_at hl 4 rfl) ?_
  refine lv_iconst (v := 3) hx hb dd_L_law_1108 (by decide) ?_
  refine lv_iadd hx hb dd_L_law_1109 ?_
  refine va_sld hx hb hX hbl hbA hw.2.2 hv3 dd_L_law_1110 ?_
  refine lv_aload_n hx hb dd_L_law_1111 rfl (lv_at hl 3 rfl) ?_
  obtain ⟨fs, post, xp, f0, hC, hS, hF⟩ := st_round l hT z D ac sa P h0 hm ao th ((((xs (nI i + (1 : Int32)).toNatClampNeg)).toInt64 <<< (((32 : Int32)).toInt64 &&& 63)) ||| (((xs (nI i + (2 : Int32)).toNatClampNeg)).toInt64 &&& (4294967295 : Int64))) (xs (nI i + (3 : Int32)).toNatClampNeg) hI
  refine cx_afterX (cx_rSH (n := 4) (As := [.ref h0, .long ((((xs (nI i + (1 : Int32)).toNatClampNeg)).toInt64 <<< (((32 : Int32)).toInt64 &&& 63)) ||| (((xs (nI i + (2 : Int32)).toNatClampNeg)).toInt64 &&& (4294967295 : Int64))), .int (xs (nI i + (3 : Int32)).toNatClampNeg), .ref ao]) (rest := []) ⟨hx, hb, hml, hown, hg⟩ (w_round l z D ac sa P h0 ao fs ((((xs (nI i + (1 : Int32)).toNatClampNeg)).toInt64 <<< (((32 : Int32)).toInt64 &&& 63)) ||| (((xs (nI i + (2 : Int32)).toNatClampNeg)).toInt64 &&& (4294967295 : Int64))) (xs (nI i + (3 : Int32)).toNatClampNeg) post xp hC (fun v P1 h => (hS v P1 h).elim (fun r h => h.elim (fun fo h => ⟨r, fo, h.1, h.2.1⟩))) (fun E P1 h => (hF E P1 h).elim (fun cd h => h.1.imp And.left And.left)) f0) gch_L_round gm_L_141 gt_L_round gn_L (by decide +kernel) ⟨by decide, by decide⟩ hK hw rfl hl.1 rfl (Nat.le_of_ble_eq_true rfl) dd_L_law_1112 ⟨Nat.le_trans (by dsimp only; omega) hcs.1, Nat.le_trans (by dsimp only; omega) hcs.2⟩) hw (fun E9 ce9 q9 P9 H locs hp hw hce hcv hcl => hp.elim) (fun v9 P9 H locs hp hw => ?_)
  rcases hp with ⟨r, P1, fo, hp, fo9, rfl, e9⟩ | ⟨hp, rfl⟩ | ⟨hp, rfl⟩
  · skip
    rw [e9] at hw
    clear e9 P9
    obtain ⟨r1, fo1, e1, -, hN⟩ := hS _ _ hp
    have e1 : r = r1 := Value.int.inj (Option.some.inj e1)
    subst e1
    obtain ⟨vs, mp, hv, hM, hE⟩ := hN (vp_updL fo 0 r.toInt64)
    refine W.eq (g2 := F0 m 1115 ls [.int (0 : Int32)]) rfl ?_
    refine lv_istore (lv' := [(5, .int (0 : Int32)), (0, .ref b), (1, .ref h0), (2, .ref hm), (3, .ref ao), (4, .int (nI i))]) hx hb dd_L_law_1115 hl (by decide) rfl (fun ls hl => ?_)
    refine lv_aload_n hx hb dd_L_law_1117 rfl (lv_at hl 3 rfl) ?_
    refine lv_aload_n hx hb dd_L_law_1118 rfl (lv_at hl 1 rfl) ?_
    refine lv_iload hx hb dd_L_law_1119 (lv_at hl 5 rfl) ?_
    refine lv_iconst (v := 1) hx hb dd_L_law_1121 (by decide) ?_
    refine lv_iadd hx hb dd_L_law_1122 ?_
    refine va_sld hx hb hX hbl hbA hw.2.2 hv1 dd_L_law_1123 ?_
    refine lv_i2l hx hb dd_L_law_1124 rfl ?_
    refine lv_bipush (v := 32) hx hb dd_L_law_1125 (by decide) ?_
    refine lv_lshl hx hb dd_L_law_1127 rfl ?_
    refine lv_aload_n hx hb dd_L_law_1128 rfl (lv_at hl 1 rfl) ?_
    refine lv_iload hx hb dd_L_law_1129 (lv_at hl 5 rfl) ?_
    refine lv_iconst (v := 2) hx hb dd_L_law_1131 (by decide) ?_
    refine lv_iadd hx hb dd_L_law_1132 ?_
    refine va_sld hx hb hX hbl hbA hw.2.2 hv2 dd_L_law_1133 ?_
    refine lv_i2l hx hb dd_L_law_1134 rfl ?_
    refine lv_ldc2 (v := (4294967295)) hx hb hown (hg _ gq_L_139) dd_L_law_1135 ?_
    refine lv_land hx hb dd_L_law_1138 ?_
    refine lv_lor hx hb dd_L_law_1139 ?_
    refine lv_aload_n hx hb dd_L_law_1140 rfl (lv_at hl 1 rfl) ?_
    refine lv_iload hx hb dd_L_law_1141 (lv_at hl 5 rfl) ?_
    refine lv_iconst (v := 3) hx hb dd_L_law_1143 (by decide) ?_
    refine lv_iadd hx hb dd_L_law_1144 ?_
    refine va_sld hx hb hX hbl hbA hw.2.2 hv3 dd_L_law_1145 ?_
    refine cx_after (cx_rV (n := 2) (As := [.long ((((xs (nI i + (1 : Int32)).toNatClampNeg)).toInt64 <<< (((32 : Int32)).toInt64 &&& 63)) ||| (((xs (nI i + (2 : Int32)).toNatClampNeg)).toInt64 &&& (4294967295 : Int64))), .int (xs (nI i + (3 : Int32)).toNatClampNeg)]) (rest := []) ⟨hx, hb, hml, hown, hg⟩ hM (cx_gv gm_L_144 gi_M_round gs_M_round gn_M gc_M_round) (by decide +kernel) ⟨by decide, by decide⟩ hK hw hv rfl rfl hl.1 rfl (Nat.le_of_ble_eq_true rfl) dd_L_law_1146 ⟨Nat.le_trans (by dsimp only; omega) hcs.1, Nat.le_trans (by dsimp only; omega) hcs.2⟩) hw (fun v9 P3 H locs hp hw => ?_)
    obtain ⟨rfl, hI, hao⟩ := hE _ _ hp
    refine W.eq (g2 := F0 m 1149 ls [.int r]) rfl ?_
    refine lv_istore (lv' := [(6, .int r), (5, .int (0 : Int32)), (0, .ref b), (1, .ref h0), (2, .ref hm), (3, .ref ao), (4, .int (nI i))]) hx hb dd_L_law_1149 hl (by decide) rfl (fun ls hl => ?_)
    refine lv_aload_n hx hb dd_L_law_1151 rfl (lv_at hl 4 rfl) ?_
    obtain ⟨vs9, hv9, hM9⟩ := iv_thr (l := l) (z := z) (D := D) (sa := sa) hI
    refine cx_after (cx_rV (n := 0) (As := []) (rest := []) ⟨hx, hb, hml, hown, hg⟩ hM9 (cx_gv gm_L_90 gi_M_thrown gs_M_thrown gn_M gc_M_thrown) (by decide +kernel) ⟨by decide, by decide⟩ hK hw hv9 rfl rfl hl.1 rfl (Nat.le_of_ble_eq_true rfl) dd_L_law_1152 ⟨Nat.le_trans (by dsimp only; omega) hcs.1, Nat.le_trans (by dsimp only; omega) hcs.2⟩) hw (fun v9 P9 H locs hp hw => ?_)
    obtain ⟨rfl, e9⟩ := hp
    rw [e9] at hw
    clear e9 P9
    refine W.eq (g2 := F0 m 1155 ls [.int (0 : Int32)]) rfl ?_
    refine lv_iload hx hb dd_L_law_1155 (lv_at hl 1 rfl) ?_
    refine lv_icmp_eq (tgt := 1162) hx hb dd_L_law_1157 (by decide) (fun c1 => ?_) (fun c1 => absurd (by decide) c1)
    refine lv_iload hx hb dd_L_law_1162 (lv_at hl 1 rfl) ?_
    refine lv_if_ne (tgt := 1179) hx hb dd_L_law_1164 (by decide) (fun c2 => absurd (by decide) c2) (fun c2 => ?_)
    refine lv_aload_n hx hb dd_L_law_1167 rfl (lv_at hl 5 rfl) ?_
    refine lv_iconst (v := 0) hx hb dd_L_law_1168 (by decide) ?_
    refine pm_lald hx hb hK.2.1 hw 1 hao rfl (show vp_in (0 : Int32) 1 from vp_in_nI (n := 0) (by decide) (by decide)) dd_L_law_1169 ?_
    refine lv_iload hx hb dd_L_law_1170 (lv_at hl 0 rfl) ?_
    refine lv_i2l hx hb dd_L_law_1172 rfl ?_
    refine W.lcmp hx hb dd_L_law_1173 ?_
    refine lv_if_eq (tgt := 1179) hx hb dd_L_law_1174 (by decide) (fun c3 => ?_) (fun c3 => absurd (lw_cmp rfl) c3)
    refine lv_goto (tgt := 1454) hx hb dd_L_law_1179 (by decide) ?_
    refine W.widen (k := cells + 16) (n := slots + 64) (by dsimp only; omega) (by dsimp only; omega) ?_
    exact kk P3 0 H _ ls hI hw (lv_sub hl [2, 3, 4, 5, 6] rfl)
  · skip
    obtain ⟨cd, hcd, vs, mp, hv, hM, hE⟩ := hF _ _ hp
    have hcd : cd = 1 := by
      rcases hcd with ⟨q, h⟩ | ⟨q, h⟩ <;> first | exact h | exact absurd q (by decide +kernel)
    subst hcd
    refine W.eq (g2 := F0 m 1115 ls [.int (1 : Int32)]) rfl ?_
    refine lv_istore (lv' := [(5, .int (1 : Int32)), (0, .ref b), (1, .ref h0), (2, .ref hm), (3, .ref ao), (4, .int (nI i))]) hx hb dd_L_law_1115 hl (by decide) rfl (fun ls hl => ?_)
    refine lv_aload_n hx hb dd_L_law_1117 rfl (lv_at hl 3 rfl) ?_
    refine lv_aload_n hx hb dd_L_law_1118 rfl (lv_at hl 1 rfl) ?_
    refine lv_iload hx hb dd_L_law_1119 (lv_at hl 5 rfl) ?_
    refine lv_iconst (v := 1) hx hb dd_L_law_1121 (by decide) ?_
    refine lv_iadd hx hb dd_L_law_1122 ?_
    refine va_sld hx hb hX hbl hbA hw.2.2 hv1 dd_L_law_1123 ?_
    refine lv_i2l hx hb dd_L_law_1124 rfl ?_
    refine lv_bipush (v := 32) hx hb dd_L_law_1125 (by decide) ?_
    refine lv_lshl hx hb dd_L_law_1127 rfl ?_
    refine lv_aload_n hx hb dd_L_law_1128 rfl (lv_at hl 1 rfl) ?_
    refine lv_iload hx hb dd_L_law_1129 (lv_at hl 5 rfl) ?_
    refine lv_iconst (v := 2) hx hb dd_L_law_1131 (by decide) ?_
    refine lv_iadd hx hb dd_L_law_1132 ?_
    refine va_sld hx hb hX hbl hbA hw.2.2 hv2 dd_L_law_1133 ?_
    refine lv_i2l hx hb dd_L_law_1134 rfl ?_
    refine lv_ldc2 (v := (4294967295)) hx hb hown (hg _ gq_L_139) dd_L_law_1135 ?_
    refine lv_land hx hb dd_L_law_1138 ?_
    refine lv_lor hx hb dd_L_law_1139 ?_
    refine lv_aload_n hx hb dd_L_law_1140 rfl (lv_at hl 1 rfl) ?_
    refine lv_iload hx hb dd_L_law_1141 (lv_at hl 5 rfl) ?_
    refine lv_iconst (v := 3) hx hb dd_L_law_1143 (by decide) ?_
    refine lv_iadd hx hb dd_L_law_1144 ?_
    refine va_sld hx hb hX hbl hbA hw.2.2 hv3 dd_L_law_1145 ?_
    refine cx_after (cx_rV (n := 2) (As := [.long ((((xs (nI i + (1 : Int32)).toNatClampNeg)).toInt64 <<< (((32 : Int32)).toInt64 &&& 63)) ||| (((xs (nI i + (2 : Int32)).toNatClampNeg)).toInt64 &&& (4294967295 : Int64))), .int (xs (nI i + (3 : Int32)).toNatClampNeg)]) (rest := []) ⟨hx, hb, hml, hown, hg⟩ hM (cx_gv gm_L_144 gi_M_round gs_M_round gn_M gc_M_round) (by decide +kernel) ⟨by decide, by decide⟩ hK hw hv rfl rfl hl.1 rfl (Nat.le_of_ble_eq_true rfl) dd_L_law_1146 ⟨Nat.le_trans (by dsimp only; omega) hcs.1, Nat.le_trans (by dsimp only; omega) hcs.2⟩) hw (fun v9 P3 H locs hp hw => ?_)
    obtain ⟨⟨b9, rfl⟩, hI⟩ := hE _ _ hp
    refine W.eq (g2 := F0 m 1149 ls [.int b9]) rfl ?_
    refine lv_istore (lv' := [(6, .int b9), (5, .int (1 : Int32)), (0, .ref b), (1, .ref h0), (2, .ref hm), (3, .ref ao), (4, .int (nI i))]) hx hb dd_L_law_1149 hl (by decide) rfl (fun ls hl => ?_)
    refine lv_aload_n hx hb dd_L_law_1151 rfl (lv_at hl 4 rfl) ?_
    obtain ⟨vs9, hv9, hM9⟩ := iv_thr (l := l) (z := z) (D := D) (sa := sa) hI
    refine cx_after (cx_rV (n := 0) (As := []) (rest := []) ⟨hx, hb, hml, hown, hg⟩ hM9 (cx_gv gm_L_90 gi_M_thrown gs_M_thrown gn_M gc_M_thrown) (by decide +kernel) ⟨by decide, by decide⟩ hK hw hv9 rfl rfl hl.1 rfl (Nat.le_of_ble_eq_true rfl) dd_L_law_1152 ⟨Nat.le_trans (by dsimp only; omega) hcs.1, Nat.le_trans (by dsimp only; omega) hcs.2⟩) hw (fun v9 P9 H locs hp hw => ?_)
    obtain ⟨rfl, e9⟩ := hp
    rw [e9] at hw
    clear e9 P9
    refine W.eq (g2 := F0 m 1155 ls [.int (1 : Int32)]) rfl ?_
    refine lv_iload hx hb dd_L_law_1155 (lv_at hl 1 rfl) ?_
    refine lv_icmp_eq (tgt := 1162) hx hb dd_L_law_1157 (by decide) (fun c4 => ?_) (fun c4 => absurd (by decide) c4)
    refine lv_iload hx hb dd_L_law_1162 (lv_at hl 1 rfl) ?_
    refine lv_if_ne (tgt := 1179) hx hb dd_L_law_1164 (by decide) (fun c5 => ?_) (fun c5 => absurd c5 (by decide))
    refine lv_goto (tgt := 1454) hx hb dd_L_law_1179 (by decide) ?_
    refine W.widen (k := cells + 16) (n := slots + 64) (by dsimp only; omega) (by dsimp only; omega) ?_
    exact kk P3 1 H _ ls hI hw (lv_sub hl [2, 3, 4, 5, 6] rfl)
  · skip
    obtain ⟨cd, hcd, vs, mp, hv, hM, hE⟩ := hF _ _ hp
    have hcd : cd = 2 := by
      rcases hcd with ⟨q, h⟩ | ⟨q, h⟩ <;> first | exact h | exact absurd q (by decide +kernel)
    subst hcd
    refine W.eq (g2 := F0 m 1115 ls [.int (2 : Int32)]) rfl ?_
    refine lv_istore (lv' := [(5, .int (2 : Int32)), (0, .ref b), (1, .ref h0), (2, .ref hm), (3, .ref ao), (4, .int (nI i))]) hx hb dd_L_law_1115 hl (by decide) rfl (fun ls hl => ?_)
    refine lv_aload_n hx hb dd_L_law_1117 rfl (lv_at hl 3 rfl) ?_
    refine lv_aload_n hx hb dd_L_law_1118 rfl (lv_at hl 1 rfl) ?_
    refine lv_iload hx hb dd_L_law_1119 (lv_at hl 5 rfl) ?_
    refine lv_iconst (v := 1) hx hb dd_L_law_1121 (by decide) ?_
    refine lv_iadd hx hb dd_L_law_1122 ?_
    refine va_sld hx hb hX hbl hbA hw.2.2 hv1 dd_L_law_1123 ?_
    refine lv_i2l hx hb dd_L_law_1124 rfl ?_
    refine lv_bipush (v := 32) hx hb dd_L_law_1125 (by decide) ?_
    refine lv_lshl hx hb dd_L_law_1127 rfl ?_
    refine lv_aload_n hx hb dd_L_law_1128 rfl (lv_at hl 1 rfl) ?_
    refine lv_iload hx hb dd_L_law_1129 (lv_at hl 5 rfl) ?_
    refine lv_iconst (v := 2) hx hb dd_L_law_1131 (by decide) ?_
    refine lv_iadd hx hb dd_L_law_1132 ?_
    refine va_sld hx hb hX hbl hbA hw.2.2 hv2 dd_L_law_1133 ?_
    refine lv_i2l hx hb dd_L_law_1134 rfl ?_
    refine lv_ldc2 (v := (4294967295)) hx hb hown (hg _ gq_L_139) dd_L_law_1135 ?_
    refine lv_land hx hb dd_L_law_1138 ?_
    refine lv_lor hx hb dd_L_law_1139 ?_
    refine lv_aload_n hx hb dd_L_law_1140 rfl (lv_at hl 1 rfl) ?_
    refine lv_iload hx hb dd_L_law_1141 (lv_at hl 5 rfl) ?_
    refine lv_iconst (v := 3) hx hb dd_L_law_1143 (by decide) ?_
    refine lv_iadd hx hb dd_L_law_1144 ?_
    refine va_sld hx hb hX hbl hbA hw.2.2 hv3 dd_L_law_1145 ?_
    refine cx_after (cx_rV (n := 2) (As := [.long ((((xs (nI i + (1 : Int32)).toNatClampNeg)).toInt64 <<< (((32 : Int32)).toInt64 &&& 63)) ||| (((xs (nI i + (2 : Int32)).toNatClampNeg)).toInt64 &&& (4294967295 : Int64))), .int (xs (nI i + (3 : Int32)).toNatClampNeg)]) (rest := []) ⟨hx, hb, hml, hown, hg⟩ hM (cx_gv gm_L_144 gi_M_round gs_M_round gn_M gc_M_round) (by decide +kernel) ⟨by decide, by decide⟩ hK hw hv rfl rfl hl.1 rfl (Nat.le_of_ble_eq_true rfl) dd_L_law_1146 ⟨Nat.le_trans (by dsimp only; omega) hcs.1, Nat.le_trans (by dsimp only; omega) hcs.2⟩) hw (fun v9 P3 H locs hp hw => ?_)
    obtain ⟨⟨b9, rfl⟩, hI⟩ := hE _ _ hp
    refine W.eq (g2 := F0 m 1149 ls [.int b9]) rfl ?_
    refine lv_istore (lv' := [(6, .int b9), (5, .int (2 : Int32)), (0, .ref b), (1, .ref h0), (2, .ref hm), (3, .ref ao), (4, .int (nI i))]) hx hb dd_L_law_1149 hl (by decide) rfl (fun ls hl => ?_)
    refine lv_aload_n hx hb dd_L_law_1151 rfl (lv_at hl 4 rfl) ?_
    obtain ⟨vs9, hv9, hM9⟩ := iv_thr (l := l) (z := z) (D := D) (sa := sa) hI
    refine cx_after (cx_rV (n := 0) (As := []) (rest := []) ⟨hx, hb, hml, hown, hg⟩ hM9 (cx_gv gm_L_90 gi_M_thrown gs_M_thrown gn_M gc_M_thrown) (by decide +kernel) ⟨by decide, by decide⟩ hK hw hv9 rfl rfl hl.1 rfl (Nat.le_of_ble_eq_true rfl) dd_L_law_1152 ⟨Nat.le_trans (by dsimp only; omega) hcs.1, Nat.le_trans (by dsimp only; omega) hcs.2⟩) hw (fun v9 P9 H locs hp hw => ?_)
    obtain ⟨rfl, e9⟩ := hp
    rw [e9] at hw
    clear e9 P9
    refine W.eq (g2 := F0 m 1155 ls [.int (2 : Int32)]) rfl ?_
    refine lv_iload hx hb dd_L_law_1155 (lv_at hl 1 rfl) ?_
    refine lv_icmp_eq (tgt := 1162) hx hb dd_L_law_1157 (by decide) (fun c6 => ?_) (fun c6 => absurd (by decide) c6)
    refine lv_iload hx hb dd_L_law_1162 (lv_at hl 1 rfl) ?_
    refine lv_if_ne (tgt := 1179) hx hb dd_L_law_1164 (by decide) (fun c7 => ?_) (fun c7 => absurd c7 (by decide))
    refine lv_goto (tgt := 1454) hx hb dd_L_law_1179 (by decide) ?_
    refine W.widen (k := cells + 16) (n := slots + 64) (by dsimp only; omega) (by dsimp only; omega) ?_
    exact kk P3 2 H _ ls hI hw (lv_sub hl [2, 3, 4, 5, 6] rfl)

set_option maxHeartbeats 4000000 in
set_option maxRecDepth 100000 in
theorem lw_c14 {p : Program} {l : Launch} {e : Env} {s : State} {m : MethodId} {below : List Frame} {meth : Method} {c : Code} {b L : Nat} {xs : Nat → Int32} {z : Nat} {D : va_G} {ac : Nat → ClassId} {sa : Nat → Nat} {Q : State → Prop} (hT : l.stackTraces = false) (hL : L ≤ 3072) (C0 : lw_B p s m c b L xs z D ac sa) {i : Nat} (hi : i + 6 ≤ L) {h0 hm ao : Nat} {P : pm_T} {th : Int32} {H : Heap} {locs : List Loc} {ls : Array Slot} {cells slots : Nat} (hcs : cells + 16 ≤ room_1.cells ∧ slots + 64 ≤ room_1.slots) (hI : iv_I P ac h0 hm ao th) (hw : pm_W z D cl_w P s.heap H locs) (hl : lv_has ls 7 [(0, .ref b), (1, .ref h0), (2, .ref hm), (3, .ref ao), (4, .int (nI i))]) (kk : ∀ (P : pm_T) (th : Int32) (H : Heap) (locs : List Loc) (ls : Array Slot), iv_I P ac h0 hm ao th → pm_W z D cl_w P s.heap H locs → lv_has ls 7 [(0, .ref b), (1, .ref h0), (2, .ref hm), (3, .ref ao), (4, .int (nI i))] → W p l e room_1 s m #[Value.ref b] below meth c H locs (cells + 16) (slots + 64) Q (F0 m 1454 ls [])) : W p l e room_1 s m #[Value.ref b] below meth c H locs cells slots Q (F0 m 1182 ls []) := by
  obtain ⟨hx, hb, hml, hown, hg, hX, hbl, hbA, hK⟩ := C0
  have hv1 : vp_in (nI i + (1 : Int32)) L := lw_in (k := 1) rfl hL (by omega)
  have hv2 : vp_in (nI i + (2 : Int32)) L := lw_in (k := 2) rfl hL (by omega)
  have hv3 : vp_in (nI i + (3 : Int32)) L := lw_in (k := 3) rfl hL (by omega)
  have hv4 : vp_in (nI i + (4 : Int32)) L := lw_in (k := 4) rfl hL (by omega)
  have hv5 : vp_in (nI i + (5 : Int32)) L := lw_in (k := 5) rfl hL (by omega)
  refine lv_aload_n hx hb dd_L_law_1182 rfl (lv_at hl 1 rfl) ?_
  refine lv_aload_n hx hb dd_L_law_1183 rfl (lv_at hl 0 rfl) ?_
  refine lv_iload hx hb dd_L_law_1184 (lv_at hl 4 rfl) ?_
  refine lv_iconst (v := 1) hx hb dd_L_law_1186 (by decide) ?_
  refine lv_iadd hx hb dd_L_law_1187 ?_
  refine va_sld hx hb hX hbl hbA hw.2.2 hv1 dd_L_law_1188 ?_
  refine lv_aload_n hx hb dd_L_law_1189 rfl (lv_at hl 3 rfl) ?_
  obtain ⟨fs, post, xp, f0, hC, hS, hF⟩ := st_stop l hT z D ac sa P h0 hm ao th (xs (nI i + (1 : Int32)).toNatClampNeg) hI
  refine cx_afterX (cx_rSH (n := 3) (As := [.ref h0, .int (xs (nI i + (1 : Int32)).toNatClampNeg), .ref ao]) (rest := []) ⟨hx, hb, hml, hown, hg⟩ (w_stop l z D ac sa P h0 ao fs (xs (nI i + (1 : Int32)).toNatClampNeg) post xp hC (fun v P1 h => (hS v P1 h).elim (fun r h => h.elim (fun fo h => ⟨r, fo, h.1, h.2.1⟩))) (fun E P1 h => (hF E P1 h).elim (fun cd h => h.1.1)) f0) gch_L_stop gm_L_145 gt_L_stop gn_L (by decide +kernel) ⟨by decide, by decide⟩ hK hw rfl hl.1 rfl (Nat.le_of_ble_eq_true rfl) dd_L_law_1190 ⟨Nat.le_trans (by dsimp only; omega) hcs.1, Nat.le_trans (by dsimp only; omega) hcs.2⟩) hw (fun E9 ce9 q9 P9 H locs hp hw hce hcv hcl => hp.elim) (fun v9 P9 H locs hp hw => ?_)
  rcases hp with ⟨r, P1, fo, hp, fo9, rfl, e9⟩ | ⟨hp, rfl⟩
  · skip
    rw [e9] at hw
    clear e9 P9
    obtain ⟨r1, fo1, e1, -, hN⟩ := hS _ _ hp
    have e1 : r = r1 := Value.int.inj (Option.some.inj e1)
    subst e1
    obtain ⟨vs, mp, hv, hM, hE⟩ := hN (vp_updL fo 0 r.toInt64)
    refine W.eq (g2 := F0 m 1193 ls [.int (0 : Int32)]) rfl ?_
    refine lv_istore (lv' := [(5, .int (0 : Int32)), (0, .ref b), (1, .ref h0), (2, .ref hm), (3, .ref ao), (4, .int (nI i))]) hx hb dd_L_law_1193 hl (by decide) rfl (fun ls hl => ?_)
    refine lv_aload_n hx hb dd_L_law_1195 rfl (lv_at hl 3 rfl) ?_
    refine lv_aload_n hx hb dd_L_law_1196 rfl (lv_at hl 1 rfl) ?_
    refine lv_iload hx hb dd_L_law_1197 (lv_at hl 5 rfl) ?_
    refine lv_iconst (v := 1) hx hb dd_L_law_1199 (by decide) ?_
    refine lv_iadd hx hb dd_L_law_1200 ?_
    refine va_sld hx hb hX hbl hbA hw.2.2 hv1 dd_L_law_1201 ?_
    refine cx_after (cx_rV (n := 1) (As := [.int (xs (nI i + (1 : Int32)).toNatClampNeg)]) (rest := []) ⟨hx, hb, hml, hown, hg⟩ hM (cx_gv gm_L_147 gi_M_stop gs_M_stop gn_M gc_M_stop) (by decide +kernel) ⟨by decide, by decide⟩ hK hw hv rfl rfl hl.1 rfl (Nat.le_of_ble_eq_true rfl) dd_L_law_1202 ⟨Nat.le_trans (by dsimp only; omega) hcs.1, Nat.le_trans (by dsimp only; omega) hcs.2⟩) hw (fun v9 P3 H locs hp hw => ?_)
    obtain ⟨rfl, hI, hao⟩ := hE _ _ hp
    refine W.eq (g2 := F0 m 1205 ls [.int r]) rfl ?_
    refine lv_istore (lv' := [(6, .int r), (5, .int (0 : Int32)), (0, .ref b), (1, .ref h0), (2, .ref hm), (3, .ref ao), (4, .int (nI i))]) hx hb dd_L_law_1205 hl (by decide) rfl (fun ls hl => ?_)
    refine lv_aload_n hx hb dd_L_law_1207 rfl (lv_at hl 4 rfl) ?_
    obtain ⟨vs9, hv9, hM9⟩ := iv_thr (l := l) (z := z) (D := D) (sa := sa) hI
    refine cx_after (cx_rV (n := 0) (As := []) (rest := []) ⟨hx, hb, hml, hown, hg⟩ hM9 (cx_gv gm_L_90 gi_M_thrown gs_M_thrown gn_M gc_M_thrown) (by decide +kernel) ⟨by decide, by decide⟩ hK hw hv9 rfl rfl hl.1 rfl (Nat.le_of_ble_eq_true rfl) dd_L_law_1208 ⟨Nat.le_trans (by dsimp only; omega) hcs.1, Nat.le_trans (by dsimp only; omega) hcs.2⟩) hw (fun v9 P9 H locs hp hw => ?_)
    obtain ⟨rfl, e9⟩ := hp
    rw [e9] at hw
    clear e9 P9
    refine W.eq (g2 := F0 m 1211 ls [.int (0 : Int32)]) rfl ?_
    refine lv_iload hx hb dd_L_law_1211 (lv_at hl 1 rfl) ?_
    refine lv_icmp_eq (tgt := 1218) hx hb dd_L_law_1213 (by decide) (fun c1 => ?_) (fun c1 => absurd (by decide) c1)
    refine lv_iload hx hb dd_L_law_1218 (lv_at hl 1 rfl) ?_
    refine lv_if_ne (tgt := 1235) hx hb dd_L_law_1220 (by decide) (fun c2 => absurd (by decide) c2) (fun c2 => ?_)
    refine lv_aload_n hx hb dd_L_law_1223 rfl (lv_at hl 5 rfl) ?_
    refine lv_iconst (v := 0) hx hb dd_L_law_1224 (by decide) ?_
    refine pm_lald hx hb hK.2.1 hw 1 hao rfl (show vp_in (0 : Int32) 1 from vp_in_nI (n := 0) (by decide) (by decide)) dd_L_law_1225 ?_
    refine lv_iload hx hb dd_L_law_1226 (lv_at hl 0 rfl) ?_
    refine lv_i2l hx hb dd_L_law_1228 rfl ?_
    refine W.lcmp hx hb dd_L_law_1229 ?_
    refine lv_if_eq (tgt := 1235) hx hb dd_L_law_1230 (by decide) (fun c3 => ?_) (fun c3 => absurd (lw_cmp rfl) c3)
    refine lv_goto (tgt := 1454) hx hb dd_L_law_1235 (by decide) ?_
    refine W.widen (k := cells + 16) (n := slots + 64) (by dsimp only; omega) (by dsimp only; omega) ?_
    exact kk P3 0 H _ ls hI hw (lv_sub hl [2, 3, 4, 5, 6] rfl)
  · skip
    obtain ⟨cd, hcd, vs, mp, hv, hM, hE⟩ := hF _ _ hp
    have hcd : cd = 1 := hcd.2
    subst hcd
    refine W.eq (g2 := F0 m 1193 ls [.int (1 : Int32)]) rfl ?_
    refine lv_istore (lv' := [(5, .int (1 : Int32)), (0, .ref b), (1, .ref h0), (2, .ref hm), (3, .ref ao), (4, .int (nI i))]) hx hb dd_L_law_1193 hl (by decide) rfl (fun ls hl => ?_)
    refine lv_aload_n hx hb dd_L_law_1195 rfl (lv_at hl 3 rfl) ?_
    refine lv_aload_n hx hb dd_L_law_1196 rfl (lv_at hl 1 rfl) ?_
    refine lv_iload hx hb dd_L_law_1197 (lv_at hl 5 rfl) ?_
    refine lv_iconst (v := 1) hx hb dd_L_law_1199 (by decide) ?_
    refine lv_iadd hx hb dd_L_law_1200 ?_
    refine va_sld hx hb hX hbl hbA hw.2.2 hv1 dd_L_law_1201 ?_
    refine cx_after (cx_rV (n := 1) (As := [.int (xs (nI i + (1 : Int32)).toNatClampNeg)]) (rest := []) ⟨hx, hb, hml, hown, hg⟩ hM (cx_gv gm_L_147 gi_M_stop gs_M_stop gn_M gc_M_stop) (by decide +kernel) ⟨by decide, by decide⟩ hK hw hv rfl rfl hl.1 rfl (Nat.le_of_ble_eq_true rfl) dd_L_law_1202 ⟨Nat.le_trans (by dsimp only; omega) hcs.1, Nat.le_trans (by dsimp only; omega) hcs.2⟩) hw (fun v9 P3 H locs hp hw => ?_)
    obtain ⟨⟨b9, rfl⟩, hI⟩ := hE _ _ hp
    refine W.eq (g2 := F0 m 1205 ls [.int b9]) rfl ?_
    refine lv_istore (lv' := [(6, .int b9), (5, .int (1 : Int32)), (0, .ref b), (1, .ref h0), (2, .ref hm), (3, .ref ao), (4, .int (nI i))]) hx hb dd_L_law_1205 hl (by decide) rfl (fun ls hl => ?_)
    refine lv_aload_n hx hb dd_L_law_1207 rfl (lv_at hl 4 rfl) ?_
    obtain ⟨vs9, hv9, hM9⟩ := iv_thr (l := l) (z := z) (D := D) (sa := sa) hI
    refine cx_after (cx_rV (n := 0) (As := []) (rest := []) ⟨hx, hb, hml, hown, hg⟩ hM9 (cx_gv gm_L_90 gi_M_thrown gs_M_thrown gn_M gc_M_thrown) (by decide +kernel) ⟨by decide, by decide⟩ hK hw hv9 rfl rfl hl.1 rfl (Nat.le_of_ble_eq_true rfl) dd_L_law_1208 ⟨Nat.le_trans (by dsimp only; omega) hcs.1, Nat.le_trans (by dsimp only; omega) hcs.2⟩) hw (fun v9 P9 H locs hp hw => ?_)
    obtain ⟨rfl, e9⟩ := hp
    rw [e9] at hw
    clear e9 P9
    refine W.eq (g2 := F0 m 1211 ls [.int (1 : Int32)]) rfl ?_
    refine lv_iload hx hb dd_L_law_1211 (lv_at hl 1 rfl) ?_
    refine lv_icmp_eq (tgt := 1218) hx hb dd_L_law_1213 (by decide) (fun c4 => ?_) (fun c4 => absurd (by decide) c4)
    refine lv_iload hx hb dd_L_law_1218 (lv_at hl 1 rfl) ?_
    refine lv_if_ne (tgt := 1235) hx hb dd_L_law_1220 (by decide) (fun c5 => ?_) (fun c5 => absurd c5 (by decide))
    refine lv_goto (tgt := 1454) hx hb dd_L_law_1235 (by decide) ?_
    refine W.widen (k := cells + 16) (n := slots + 64) (by dsimp only; omega) (by dsimp only; omega) ?_
    exact kk P3 1 H _ ls hI hw (lv_sub hl [2, 3, 4, 5, 6] rfl)

set_option maxHeartbeats 4000000 in
set_option maxRecDepth 100000 in
theorem lw_c15 {p : Program} {l : Launch} {e : Env} {s : State} {m : MethodId} {below : List Frame} {meth : Method} {c : Code} {b L : Nat} {xs : Nat → Int32} {z : Nat} {D : va_G} {ac : Nat → ClassId} {sa : Nat → Nat} {Q : State → Prop} (hT : l.stackTraces = false) (hL : L ≤ 3072) (C0 : lw_B p s m c b L xs z D ac sa) {i : Nat} (hi : i + 6 ≤ L) {h0 hm ao : Nat} {P : pm_T} {th : Int32} {H : Heap} {locs : List Loc} {ls : Array Slot} {cells slots : Nat} (hcs : cells + 16 ≤ room_1.cells ∧ slots + 64 ≤ room_1.slots) (hI : iv_I P ac h0 hm ao th) (hw : pm_W z D cl_w P s.heap H locs) (hl : lv_has ls 7 [(0, .ref b), (1, .ref h0), (2, .ref hm), (3, .ref ao), (4, .int (nI i))]) (kk : ∀ (P : pm_T) (th : Int32) (H : Heap) (locs : List Loc) (ls : Array Slot), iv_I P ac h0 hm ao th → pm_W z D cl_w P s.heap H locs → lv_has ls 7 [(0, .ref b), (1, .ref h0), (2, .ref hm), (3, .ref ao), (4, .int (nI i))] → W p l e room_1 s m #[Value.ref b] below meth c H locs (cells + 16) (slots + 64) Q (F0 m 1454 ls [])) : W p l e room_1 s m #[Value.ref b] below meth c H locs cells slots Q (F0 m 1238 ls []) := by
  obtain ⟨hx, hb, hml, hown, hg, hX, hbl, hbA, hK⟩ := C0
  have hv1 : vp_in (nI i + (1 : Int32)) L := lw_in (k := 1) rfl hL (by omega)
  have hv2 : vp_in (nI i + (2 : Int32)) L := lw_in (k := 2) rfl hL (by omega)
  have hv3 : vp_in (nI i + (3 : Int32)) L := lw_in (k := 3) rfl hL (by omega)
  have hv4 : vp_in (nI i + (4 : Int32)) L := lw_in (k := 4) rfl hL (by omega)
  have hv5 : vp_in (nI i + (5 : Int32)) L := lw_in (k := 5) rfl hL (by omega)
  refine lv_aload_n hx hb dd_L_law_1238 rfl (lv_at hl 1 rfl) ?_
  refine lv_aload_n hx hb dd_L_law_1239 rfl (lv_at hl 0 rfl) ?_
  refine lv_iload hx hb dd_L_law_1240 (lv_at hl 4 rfl) ?_
  refine lv_iconst (v := 1) hx hb dd_L_law_1242 (by decide) ?_
  refine lv_iadd hx hb dd_L_law_1243 ?_
  refine va_sld hx hb hX hbl hbA hw.2.2 hv1 dd_L_law_1244 ?_
  refine lv_aload_n hx hb dd_L_law_1245 rfl (lv_at hl 0 rfl) ?_
  refine lv_iload hx hb dd_L_law_1246 (lv_at hl 4 rfl) ?_
  refine lv_iconst (v := 2) hx hb dd_L_law_1248 (by decide) ?_
  refine lv_iadd hx hb dd_L_law_1249 ?_
  refine va_sld hx hb hX hbl hbA hw.2.2 hv2 dd_L_law_1250 ?_
  refine lv_aload_n hx hb dd_L_law_1251 rfl (lv_at hl 0 rfl) ?_
  refine lv_iload hx hb dd_L_law_1252 (lv_at hl 4 rfl) ?_
  refine lv_iconst (v := 3) hx hb dd_L_law_1254 (by decide) ?_
  refine lv_iadd hx hb dd_L_law_1255 ?_
  refine va_sld hx hb hX hbl hbA hw.2.2 hv3 dd_L_law_1256 ?_
  refine lv_aload_n hx hb dd_L_law_1257 rfl (lv_at hl 3 rfl) ?_
  obtain ⟨fs, post, xp, f0, hC, hS, hF⟩ := st_overdue l hT z D ac sa P h0 hm ao th (xs (nI i + (1 : Int32)).toNatClampNeg) (xs (nI i + (2 : Int32)).toNatClampNeg) (xs (nI i + (3 : Int32)).toNatClampNeg) hI
  refine cx_afterX (cx_rSH (n := 5) (As := [.ref h0, .int (xs (nI i + (1 : Int32)).toNatClampNeg), .int (xs (nI i + (2 : Int32)).toNatClampNeg), .int (xs (nI i + (3 : Int32)).toNatClampNeg), .ref ao]) (rest := []) ⟨hx, hb, hml, hown, hg⟩ (w_overdue l z D ac sa P h0 ao fs (xs (nI i + (1 : Int32)).toNatClampNeg) (xs (nI i + (2 : Int32)).toNatClampNeg) (xs (nI i + (3 : Int32)).toNatClampNeg) post xp hC (fun v P1 h => (hS v P1 h).elim (fun r h => h.elim (fun fo h => ⟨r, fo, h.1, h.2.1⟩))) (fun E P1 h => (hF E P1 h).elim (fun cd h => h.1.1)) f0) gch_L_overdue gm_L_148 gt_L_overdue gn_L (by decide +kernel) ⟨by decide, by decide⟩ hK hw rfl hl.1 rfl (Nat.le_of_ble_eq_true rfl) dd_L_law_1258 ⟨Nat.le_trans (by dsimp only; omega) hcs.1, Nat.le_trans (by dsimp only; omega) hcs.2⟩) hw (fun E9 ce9 q9 P9 H locs hp hw hce hcv hcl => hp.elim) (fun v9 P9 H locs hp hw => ?_)
  rcases hp with ⟨r, P1, fo, hp, fo9, rfl, e9⟩ | ⟨hp, rfl⟩
  · skip
    rw [e9] at hw
    clear e9 P9
    obtain ⟨r1, fo1, e1, -, hN⟩ := hS _ _ hp
    have e1 : r = r1 := Value.int.inj (Option.some.inj e1)
    subst e1
    obtain ⟨vs, mp, hv, hM, hE⟩ := hN (vp_updL fo 0 r.toInt64)
    refine W.eq (g2 := F0 m 1261 ls [.int (0 : Int32)]) rfl ?_
    refine lv_istore (lv' := [(5, .int (0 : Int32)), (0, .ref b), (1, .ref h0), (2, .ref hm), (3, .ref ao), (4, .int (nI i))]) hx hb dd_L_law_1261 hl (by decide) rfl (fun ls hl => ?_)
    refine lv_aload_n hx hb dd_L_law_1263 rfl (lv_at hl 3 rfl) ?_
    refine lv_aload_n hx hb dd_L_law_1264 rfl (lv_at hl 1 rfl) ?_
    refine lv_iload hx hb dd_L_law_1265 (lv_at hl 5 rfl) ?_
    refine lv_iconst (v := 1) hx hb dd_L_law_1267 (by decide) ?_
    refine lv_iadd hx hb dd_L_law_1268 ?_
    refine va_sld hx hb hX hbl hbA hw.2.2 hv1 dd_L_law_1269 ?_
    refine lv_aload_n hx hb dd_L_law_1270 rfl (lv_at hl 1 rfl) ?_
    refine lv_iload hx hb dd_L_law_1271 (lv_at hl 5 rfl) ?_
    refine lv_iconst (v := 2) hx hb dd_L_law_1273 (by decide) ?_
    refine lv_iadd hx hb dd_L_law_1274 ?_
    refine va_sld hx hb hX hbl hbA hw.2.2 hv2 dd_L_law_1275 ?_
    refine lv_aload_n hx hb dd_L_law_1276 rfl (lv_at hl 1 rfl) ?_
    refine lv_iload hx hb dd_L_law_1277 (lv_at hl 5 rfl) ?_
    refine lv_iconst (v := 3) hx hb dd_L_law_1279 (by decide) ?_
    refine lv_iadd hx hb dd_L_law_1280 ?_
    refine va_sld hx hb hX hbl hbA hw.2.2 hv3 dd_L_law_1281 ?_
    refine cx_after (cx_rV (n := 3) (As := [.int (xs (nI i + (1 : Int32)).toNatClampNeg), .int (xs (nI i + (2 : Int32)).toNatClampNeg), .int (xs (nI i + (3 : Int32)).toNatClampNeg)]) (rest := []) ⟨hx, hb, hml, hown, hg⟩ hM (cx_gv gm_L_150 gi_M_overdue gs_M_overdue gn_M gc_M_overdue) (by decide +kernel) ⟨by decide, by decide⟩ hK hw hv rfl rfl hl.1 rfl (Nat.le_of_ble_eq_true rfl) dd_L_law_1282 ⟨Nat.le_trans (by dsimp only; omega) hcs.1, Nat.le_trans (by dsimp only; omega) hcs.2⟩) hw (fun v9 P3 H locs hp hw => ?_)
    obtain ⟨rfl, hI, hao⟩ := hE _ _ hp
    refine W.eq (g2 := F0 m 1285 ls [.int r]) rfl ?_
    refine lv_istore (lv' := [(6, .int r), (5, .int (0 : Int32)), (0, .ref b), (1, .ref h0), (2, .ref hm), (3, .ref ao), (4, .int (nI i))]) hx hb dd_L_law_1285 hl (by decide) rfl (fun ls hl => ?_)
    refine lv_aload_n hx hb dd_L_law_1287 rfl (lv_at hl 4 rfl) ?_
    obtain ⟨vs9, hv9, hM9⟩ := iv_thr (l := l) (z := z) (D := D) (sa := sa) hI
    refine cx_after (cx_rV (n := 0) (As := []) (rest := []) ⟨hx, hb, hml, hown, hg⟩ hM9 (cx_gv gm_L_90 gi_M_thrown gs_M_thrown gn_M gc_M_thrown) (by decide +kernel) ⟨by decide, by decide⟩ hK hw hv9 rfl rfl hl.1 rfl (Nat.le_of_ble_eq_true rfl) dd_L_law_1288 ⟨Nat.le_trans (by dsimp only; omega) hcs.1, Nat.le_trans (by dsimp only; omega) hcs.2⟩) hw (fun v9 P9 H locs hp hw => ?_)
    obtain ⟨rfl, e9⟩ := hp
    rw [e9] at hw
    clear e9 P9
    refine W.eq (g2 := F0 m 1291 ls [.int (0 : Int32)]) rfl ?_
    refine lv_iload hx hb dd_L_law_1291 (lv_at hl 1 rfl) ?_
    refine lv_icmp_eq (tgt := 1298) hx hb dd_L_law_1293 (by decide) (fun c1 => ?_) (fun c1 => absurd (by decide) c1)
    refine lv_iload hx hb dd_L_law_1298 (lv_at hl 1 rfl) ?_
    refine lv_if_ne (tgt := 1315) hx hb dd_L_law_1300 (by decide) (fun c2 => absurd (by decide) c2) (fun c2 => ?_)
    refine lv_aload_n hx hb dd_L_law_1303 rfl (lv_at hl 5 rfl) ?_
    refine lv_iconst (v := 0) hx hb dd_L_law_1304 (by decide) ?_
    refine pm_lald hx hb hK.2.1 hw 1 hao rfl (show vp_in (0 : Int32) 1 from vp_in_nI (n := 0) (by decide) (by decide)) dd_L_law_1305 ?_
    refine lv_iload hx hb dd_L_law_1306 (lv_at hl 0 rfl) ?_
    refine lv_i2l hx hb dd_L_law_1308 rfl ?_
    refine W.lcmp hx hb dd_L_law_1309 ?_
    refine lv_if_eq (tgt := 1315) hx hb dd_L_law_1310 (by decide) (fun c3 => ?_) (fun c3 => absurd (lw_cmp rfl) c3)
    refine lv_goto (tgt := 1454) hx hb dd_L_law_1315 (by decide) ?_
    refine W.widen (k := cells + 16) (n := slots + 64) (by dsimp only; omega) (by dsimp only; omega) ?_
    exact kk P3 0 H _ ls hI hw (lv_sub hl [2, 3, 4, 5, 6] rfl)
  · skip
    obtain ⟨cd, hcd, vs, mp, hv, hM, hE⟩ := hF _ _ hp
    have hcd : cd = 1 := hcd.2
    subst hcd
    refine W.eq (g2 := F0 m 1261 ls [.int (1 : Int32)]) rfl ?_
    refine lv_istore (lv' := [(5, .int (1 : Int32)), (0, .ref b), (1, .ref h0), (2, .ref hm), (3, .ref ao), (4, .int (nI i))]) hx hb dd_L_law_1261 hl (by decide) rfl (fun ls hl => ?_)
    refine lv_aload_n hx hb dd_L_law_1263 rfl (lv_at hl 3 rfl) ?_
    refine lv_aload_n hx hb dd_L_law_1264 rfl (lv_at hl 1 rfl) ?_
    refine lv_iload hx hb dd_L_law_1265 (lv_at hl 5 rfl) ?_
    refine lv_iconst (v := 1) hx hb dd_L_law_1267 (by decide) ?_
    refine lv_iadd hx hb dd_L_law_1268 ?_
    refine va_sld hx hb hX hbl hbA hw.2.2 hv1 dd_L_law_1269 ?_
    refine lv_aload_n hx hb dd_L_law_1270 rfl (lv_at hl 1 rfl) ?_
    refine lv_iload hx hb dd_L_law_1271 (lv_at hl 5 rfl) ?_
    refine lv_iconst (v := 2) hx hb dd_L_law_1273 (by decide) ?_
    refine lv_iadd hx hb dd_L_law_1274 ?_
    refine va_sld hx hb hX hbl hbA hw.2.2 hv2 dd_L_law_1275 ?_
    refine lv_aload_n hx hb dd_L_law_1276 rfl (lv_at hl 1 rfl) ?_
    refine lv_iload hx hb dd_L_law_1277 (lv_at hl 5 rfl) ?_
    refine lv_iconst (v := 3) hx hb dd_L_law_1279 (by decide) ?_
    refine lv_iadd hx hb dd_L_law_1280 ?_
    refine va_sld hx hb hX hbl hbA hw.2.2 hv3 dd_L_law_1281 ?_
    refine cx_after (cx_rV (n := 3) (As := [.int (xs (nI i + (1 : Int32)).toNatClampNeg), .int (xs (nI i + (2 : Int32)).toNatClampNeg), .int (xs (nI i + (3 : Int32)).toNatClampNeg)]) (rest := []) ⟨hx, hb, hml, hown, hg⟩ hM (cx_gv gm_L_150 gi_M_overdue gs_M_overdue gn_M gc_M_overdue) (by decide +kernel) ⟨by decide, by decide⟩ hK hw hv rfl rfl hl.1 rfl (Nat.le_of_ble_eq_true rfl) dd_L_law_1282 ⟨Nat.le_trans (by dsimp only; omega) hcs.1, Nat.le_trans (by dsimp only; omega) hcs.2⟩) hw (fun v9 P3 H locs hp hw => ?_)
    obtain ⟨⟨b9, rfl⟩, hI⟩ := hE _ _ hp
    refine W.eq (g2 := F0 m 1285 ls [.int b9]) rfl ?_
    refine lv_istore (lv' := [(6, .int b9), (5, .int (1 : Int32)), (0, .ref b), (1, .ref h0), (2, .ref hm), (3, .ref ao), (4, .int (nI i))]) hx hb dd_L_law_1285 hl (by decide) rfl (fun ls hl => ?_)
    refine lv_aload_n hx hb dd_L_law_1287 rfl (lv_at hl 4 rfl) ?_
    obtain ⟨vs9, hv9, hM9⟩ := iv_thr (l := l) (z := z) (D := D) (sa := sa) hI
    refine cx_after (cx_rV (n := 0) (As := []) (rest := []) ⟨hx, hb, hml, hown, hg⟩ hM9 (cx_gv gm_L_90 gi_M_thrown gs_M_thrown gn_M gc_M_thrown) (by decide +kernel) ⟨by decide, by decide⟩ hK hw hv9 rfl rfl hl.1 rfl (Nat.le_of_ble_eq_true rfl) dd_L_law_1288 ⟨Nat.le_trans (by dsimp only; omega) hcs.1, Nat.le_trans (by dsimp only; omega) hcs.2⟩) hw (fun v9 P9 H locs hp hw => ?_)
    obtain ⟨rfl, e9⟩ := hp
    rw [e9] at hw
    clear e9 P9
    refine W.eq (g2 := F0 m 1291 ls [.int (1 : Int32)]) rfl ?_
    refine lv_iload hx hb dd_L_law_1291 (lv_at hl 1 rfl) ?_
    refine lv_icmp_eq (tgt := 1298) hx hb dd_L_law_1293 (by decide) (fun c4 => ?_) (fun c4 => absurd (by decide) c4)
    refine lv_iload hx hb dd_L_law_1298 (lv_at hl 1 rfl) ?_
    refine lv_if_ne (tgt := 1315) hx hb dd_L_law_1300 (by decide) (fun c5 => ?_) (fun c5 => absurd c5 (by decide))
    refine lv_goto (tgt := 1454) hx hb dd_L_law_1315 (by decide) ?_
    refine W.widen (k := cells + 16) (n := slots + 64) (by dsimp only; omega) (by dsimp only; omega) ?_
    exact kk P3 1 H _ ls hI hw (lv_sub hl [2, 3, 4, 5, 6] rfl)

set_option maxHeartbeats 4000000 in
set_option maxRecDepth 100000 in
theorem lw_c16 {p : Program} {l : Launch} {e : Env} {s : State} {m : MethodId} {below : List Frame} {meth : Method} {c : Code} {b L : Nat} {xs : Nat → Int32} {z : Nat} {D : va_G} {ac : Nat → ClassId} {sa : Nat → Nat} {Q : State → Prop} (hT : l.stackTraces = false) (hL : L ≤ 3072) (C0 : lw_B p s m c b L xs z D ac sa) {i : Nat} (hi : i + 6 ≤ L) {h0 hm ao : Nat} {P : pm_T} {th : Int32} {H : Heap} {locs : List Loc} {ls : Array Slot} {cells slots : Nat} (hcs : cells + 16 ≤ room_1.cells ∧ slots + 64 ≤ room_1.slots) (hI : iv_I P ac h0 hm ao th) (hw : pm_W z D cl_w P s.heap H locs) (hl : lv_has ls 7 [(0, .ref b), (1, .ref h0), (2, .ref hm), (3, .ref ao), (4, .int (nI i))]) (kk : ∀ (P : pm_T) (th : Int32) (H : Heap) (locs : List Loc) (ls : Array Slot), iv_I P ac h0 hm ao th → pm_W z D cl_w P s.heap H locs → lv_has ls 7 [(0, .ref b), (1, .ref h0), (2, .ref hm), (3, .ref ao), (4, .int (nI i))] → W p l e room_1 s m #[Value.ref b] below meth c H locs (cells + 16) (slots + 64) Q (F0 m 1454 ls [])) : W p l e room_1 s m #[Value.ref b] below meth c H locs cells slots Q (F0 m 1318 ls []) := by
  obtain ⟨hx, hb, hml, hown, hg, hX, hbl, hbA, hK⟩ := C0
  have hv1 : vp_in (nI i + (1 : Int32)) L := lw_in (k := 1) rfl hL (by omega)
  have hv2 : vp_in (nI i + (2 : Int32)) L := lw_in (k := 2) rfl hL (by omega)
  have hv3 : vp_in (nI i + (3 : Int32)) L := lw_in (k := 3) rfl hL (by omega)
  have hv4 : vp_in (nI i + (4 : Int32)) L := lw_in (k := 4) rfl hL (by omega)
  have hv5 : vp_in (nI i + (5 : Int32)) L := lw_in (k := 5) rfl hL (by omega)
  refine lv_aload_n hx hb dd_L_law_1318 rfl (lv_at hl 1 rfl) ?_
  refine lv_aload_n hx hb dd_L_law_1319 rfl (lv_at hl 0 rfl) ?_
  refine lv_iload hx hb dd_L_law_1320 (lv_at hl 4 rfl) ?_
  refine lv_iconst (v := 1) hx hb dd_L_law_1322 (by decide) ?_
  refine lv_iadd hx hb dd_L_law_1323 ?_
  refine va_sld hx hb hX hbl hbA hw.2.2 hv1 dd_L_law_1324 ?_
  refine lv_aload_n hx hb dd_L_law_1325 rfl (lv_at hl 0 rfl) ?_
  refine lv_iload hx hb dd_L_law_1326 (lv_at hl 4 rfl) ?_
  refine lv_iconst (v := 2) hx hb dd_L_law_1328 (by decide) ?_
  refine lv_iadd hx hb dd_L_law_1329 ?_
  refine va_sld hx hb hX hbl hbA hw.2.2 hv2 dd_L_law_1330 ?_
  refine lv_aload_n hx hb dd_L_law_1331 rfl (lv_at hl 3 rfl) ?_
  obtain ⟨fs, post, xp, f0, hC, hS, hF⟩ := st_testAt l hT z D ac sa P h0 hm ao th (xs (nI i + (1 : Int32)).toNatClampNeg) (xs (nI i + (2 : Int32)).toNatClampNeg) hI
  refine cx_afterX (cx_rSH (n := 4) (As := [.ref h0, .int (xs (nI i + (1 : Int32)).toNatClampNeg), .int (xs (nI i + (2 : Int32)).toNatClampNeg), .ref ao]) (rest := []) ⟨hx, hb, hml, hown, hg⟩ (w_testAt l z D ac sa P h0 ao fs (xs (nI i + (1 : Int32)).toNatClampNeg) (xs (nI i + (2 : Int32)).toNatClampNeg) post xp hC (fun v P1 h => (hS v P1 h).elim (fun r h => h.elim (fun fo h => ⟨r, fo, h.1, h.2.1⟩))) (fun E P1 h => (hF E P1 h).elim (fun cd h => h.1.1)) f0) gch_L_testAt gm_L_151 gt_L_testAt gn_L (by decide +kernel) ⟨by decide, by decide⟩ hK hw rfl hl.1 rfl (Nat.le_of_ble_eq_true rfl) dd_L_law_1332 ⟨Nat.le_trans (by dsimp only; omega) hcs.1, Nat.le_trans (by dsimp only; omega) hcs.2⟩) hw (fun E9 ce9 q9 P9 H locs hp hw hce hcv hcl => hp.elim) (fun v9 P9 H locs hp hw => ?_)
  rcases hp with ⟨r, P1, fo, hp, fo9, rfl, e9⟩ | ⟨hp, rfl⟩
  · skip
    rw [e9] at hw
    clear e9 P9
    obtain ⟨r1, fo1, e1, -, hN⟩ := hS _ _ hp
    have e1 : r = r1 := Value.int.inj (Option.some.inj e1)
    subst e1
    obtain ⟨vs, mp, hv, hM, hE⟩ := hN (vp_updL fo 0 r.toInt64)
    refine W.eq (g2 := F0 m 1335 ls [.int (0 : Int32)]) rfl ?_
    refine lv_istore (lv' := [(5, .int (0 : Int32)), (0, .ref b), (1, .ref h0), (2, .ref hm), (3, .ref ao), (4, .int (nI i))]) hx hb dd_L_law_1335 hl (by decide) rfl (fun ls hl => ?_)
    refine lv_aload_n hx hb dd_L_law_1337 rfl (lv_at hl 3 rfl) ?_
    refine lv_aload_n hx hb dd_L_law_1338 rfl (lv_at hl 1 rfl) ?_
    refine lv_iload hx hb dd_L_law_1339 (lv_at hl 5 rfl) ?_
    refine lv_iconst (v := 1) hx hb dd_L_law_1341 (by decide) ?_
    refine lv_iadd hx hb dd_L_law_1342 ?_
    refine va_sld hx hb hX hbl hbA hw.2.2 hv1 dd_L_law_1343 ?_
    refine lv_aload_n hx hb dd_L_law_1344 rfl (lv_at hl 1 rfl) ?_
    refine lv_iload hx hb dd_L_law_1345 (lv_at hl 5 rfl) ?_
    refine lv_iconst (v := 2) hx hb dd_L_law_1347 (by decide) ?_
    refine lv_iadd hx hb dd_L_law_1348 ?_
    refine va_sld hx hb hX hbl hbA hw.2.2 hv2 dd_L_law_1349 ?_
    refine cx_after (cx_rV (n := 2) (As := [.int (xs (nI i + (1 : Int32)).toNatClampNeg), .int (xs (nI i + (2 : Int32)).toNatClampNeg)]) (rest := []) ⟨hx, hb, hml, hown, hg⟩ hM (cx_gv gm_L_153 gi_M_testAt gs_M_testAt gn_M gc_M_testAt) (by decide +kernel) ⟨by decide, by decide⟩ hK hw hv rfl rfl hl.1 rfl (Nat.le_of_ble_eq_true rfl) dd_L_law_1350 ⟨Nat.le_trans (by dsimp only; omega) hcs.1, Nat.le_trans (by dsimp only; omega) hcs.2⟩) hw (fun v9 P3 H locs hp hw => ?_)
    obtain ⟨rfl, hI, hao⟩ := hE _ _ hp
    refine W.eq (g2 := F0 m 1353 ls [.int r]) rfl ?_
    refine lv_istore (lv' := [(6, .int r), (5, .int (0 : Int32)), (0, .ref b), (1, .ref h0), (2, .ref hm), (3, .ref ao), (4, .int (nI i))]) hx hb dd_L_law_1353 hl (by decide) rfl (fun ls hl => ?_)
    refine lv_aload_n hx hb dd_L_law_1355 rfl (lv_at hl 4 rfl) ?_
    obtain ⟨vs9, hv9, hM9⟩ := iv_thr (l := l) (z := z) (D := D) (sa := sa) hI
    refine cx_after (cx_rV (n := 0) (As := []) (rest := []) ⟨hx, hb, hml, hown, hg⟩ hM9 (cx_gv gm_L_90 gi_M_thrown gs_M_thrown gn_M gc_M_thrown) (by decide +kernel) ⟨by decide, by decide⟩ hK hw hv9 rfl rfl hl.1 rfl (Nat.le_of_ble_eq_true rfl) dd_L_law_1356 ⟨Nat.le_trans (by dsimp only; omega) hcs.1, Nat.le_trans (by dsimp only; omega) hcs.2⟩) hw (fun v9 P9 H locs hp hw => ?_)
    obtain ⟨rfl, e9⟩ := hp
    rw [e9] at hw
    clear e9 P9
    refine W.eq (g2 := F0 m 1359 ls [.int (0 : Int32)]) rfl ?_
    refine lv_iload hx hb dd_L_law_1359 (lv_at hl 1 rfl) ?_
    refine lv_icmp_eq (tgt := 1366) hx hb dd_L_law_1361 (by decide) (fun c1 => ?_) (fun c1 => absurd (by decide) c1)
    refine lv_iload hx hb dd_L_law_1366 (lv_at hl 1 rfl) ?_
    refine lv_if_ne (tgt := 1383) hx hb dd_L_law_1368 (by decide) (fun c2 => absurd (by decide) c2) (fun c2 => ?_)
    refine lv_aload_n hx hb dd_L_law_1371 rfl (lv_at hl 5 rfl) ?_
    refine lv_iconst (v := 0) hx hb dd_L_law_1372 (by decide) ?_
    refine pm_lald hx hb hK.2.1 hw 1 hao rfl (show vp_in (0 : Int32) 1 from vp_in_nI (n := 0) (by decide) (by decide)) dd_L_law_1373 ?_
    refine lv_iload hx hb dd_L_law_1374 (lv_at hl 0 rfl) ?_
    refine lv_i2l hx hb dd_L_law_1376 rfl ?_
    refine W.lcmp hx hb dd_L_law_1377 ?_
    refine lv_if_eq (tgt := 1383) hx hb dd_L_law_1378 (by decide) (fun c3 => ?_) (fun c3 => absurd (lw_cmp rfl) c3)
    refine lv_goto (tgt := 1454) hx hb dd_L_law_1383 (by decide) ?_
    refine W.widen (k := cells + 16) (n := slots + 64) (by dsimp only; omega) (by dsimp only; omega) ?_
    exact kk P3 0 H _ ls hI hw (lv_sub hl [2, 3, 4, 5, 6] rfl)
  · skip
    obtain ⟨cd, hcd, vs, mp, hv, hM, hE⟩ := hF _ _ hp
    have hcd : cd = 1 := hcd.2
    subst hcd
    refine W.eq (g2 := F0 m 1335 ls [.int (1 : Int32)]) rfl ?_
    refine lv_istore (lv' := [(5, .int (1 : Int32)), (0, .ref b), (1, .ref h0), (2, .ref hm), (3, .ref ao), (4, .int (nI i))]) hx hb dd_L_law_1335 hl (by decide) rfl (fun ls hl => ?_)
    refine lv_aload_n hx hb dd_L_law_1337 rfl (lv_at hl 3 rfl) ?_
    refine lv_aload_n hx hb dd_L_law_1338 rfl (lv_at hl 1 rfl) ?_
    refine lv_iload hx hb dd_L_law_1339 (lv_at hl 5 rfl) ?_
    refine lv_iconst (v := 1) hx hb dd_L_law_1341 (by decide) ?_
    refine lv_iadd hx hb dd_L_law_1342 ?_
    refine va_sld hx hb hX hbl hbA hw.2.2 hv1 dd_L_law_1343 ?_
    refine lv_aload_n hx hb dd_L_law_1344 rfl (lv_at hl 1 rfl) ?_
    refine lv_iload hx hb dd_L_law_1345 (lv_at hl 5 rfl) ?_
    refine lv_iconst (v := 2) hx hb dd_L_law_1347 (by decide) ?_
    refine lv_iadd hx hb dd_L_law_1348 ?_
    refine va_sld hx hb hX hbl hbA hw.2.2 hv2 dd_L_law_1349 ?_
    refine cx_after (cx_rV (n := 2) (As := [.int (xs (nI i + (1 : Int32)).toNatClampNeg), .int (xs (nI i + (2 : Int32)).toNatClampNeg)]) (rest := []) ⟨hx, hb, hml, hown, hg⟩ hM (cx_gv gm_L_153 gi_M_testAt gs_M_testAt gn_M gc_M_testAt) (by decide +kernel) ⟨by decide, by decide⟩ hK hw hv rfl rfl hl.1 rfl (Nat.le_of_ble_eq_true rfl) dd_L_law_1350 ⟨Nat.le_trans (by dsimp only; omega) hcs.1, Nat.le_trans (by dsimp only; omega) hcs.2⟩) hw (fun v9 P3 H locs hp hw => ?_)
    obtain ⟨⟨b9, rfl⟩, hI⟩ := hE _ _ hp
    refine W.eq (g2 := F0 m 1353 ls [.int b9]) rfl ?_
    refine lv_istore (lv' := [(6, .int b9), (5, .int (1 : Int32)), (0, .ref b), (1, .ref h0), (2, .ref hm), (3, .ref ao), (4, .int (nI i))]) hx hb dd_L_law_1353 hl (by decide) rfl (fun ls hl => ?_)
    refine lv_aload_n hx hb dd_L_law_1355 rfl (lv_at hl 4 rfl) ?_
    obtain ⟨vs9, hv9, hM9⟩ := iv_thr (l := l) (z := z) (D := D) (sa := sa) hI
    refine cx_after (cx_rV (n := 0) (As := []) (rest := []) ⟨hx, hb, hml, hown, hg⟩ hM9 (cx_gv gm_L_90 gi_M_thrown gs_M_thrown gn_M gc_M_thrown) (by decide +kernel) ⟨by decide, by decide⟩ hK hw hv9 rfl rfl hl.1 rfl (Nat.le_of_ble_eq_true rfl) dd_L_law_1356 ⟨Nat.le_trans (by dsimp only; omega) hcs.1, Nat.le_trans (by dsimp only; omega) hcs.2⟩) hw (fun v9 P9 H locs hp hw => ?_)
    obtain ⟨rfl, e9⟩ := hp
    rw [e9] at hw
    clear e9 P9
    refine W.eq (g2 := F0 m 1359 ls [.int (1 : Int32)]) rfl ?_
    refine lv_iload hx hb dd_L_law_1359 (lv_at hl 1 rfl) ?_
    refine lv_icmp_eq (tgt := 1366) hx hb dd_L_law_1361 (by decide) (fun c4 => ?_) (fun c4 => absurd (by decide) c4)
    refine lv_iload hx hb dd_L_law_1366 (lv_at hl 1 rfl) ?_
    refine lv_if_ne (tgt := 1383) hx hb dd_L_law_1368 (by decide) (fun c5 => ?_) (fun c5 => absurd c5 (by decide))
    refine lv_goto (tgt := 1454) hx hb dd_L_law_1383 (by decide) ?_
    refine W.widen (k := cells + 16) (n := slots + 64) (by dsimp only; omega) (by dsimp only; omega) ?_
    exact kk P3 1 H _ ls hI hw (lv_sub hl [2, 3, 4, 5, 6] rfl)

set_option maxHeartbeats 4000000 in
set_option maxRecDepth 100000 in
theorem lw_c17 {p : Program} {l : Launch} {e : Env} {s : State} {m : MethodId} {below : List Frame} {meth : Method} {c : Code} {b L : Nat} {xs : Nat → Int32} {z : Nat} {D : va_G} {ac : Nat → ClassId} {sa : Nat → Nat} {Q : State → Prop} (hT : l.stackTraces = false) (hL : L ≤ 3072) (C0 : lw_B p s m c b L xs z D ac sa) {i : Nat} (hi : i + 6 ≤ L) {h0 hm ao : Nat} {P : pm_T} {th : Int32} {H : Heap} {locs : List Loc} {ls : Array Slot} {cells slots : Nat} (hcs : cells + 16 ≤ room_1.cells ∧ slots + 64 ≤ room_1.slots) (hI : iv_I P ac h0 hm ao th) (hw : pm_W z D cl_w P s.heap H locs) (hl : lv_has ls 7 [(0, .ref b), (1, .ref h0), (2, .ref hm), (3, .ref ao), (4, .int (nI i))]) (kk : ∀ (P : pm_T) (th : Int32) (H : Heap) (locs : List Loc) (ls : Array Slot), iv_I P ac h0 hm ao th → pm_W z D cl_w P s.heap H locs → lv_has ls 7 [(0, .ref b), (1, .ref h0), (2, .ref hm), (3, .ref ao), (4, .int (nI i))] → W p l e room_1 s m #[Value.ref b] below meth c H locs (cells + 16) (slots + 64) Q (F0 m 1454 ls [])) : W p l e room_1 s m #[Value.ref b] below meth c H locs cells slots Q (F0 m 1386 ls []) := by
  obtain ⟨hx, hb, hml, hown, hg, hX, hbl, hbA, hK⟩ := C0
  have hv1 : vp_in (nI i + (1 : Int32)) L := lw_in (k := 1) rfl hL (by omega)
  have hv2 : vp_in (nI i + (2 : Int32)) L := lw_in (k := 2) rfl hL (by omega)
  have hv3 : vp_in (nI i + (3 : Int32)) L := lw_in (k := 3) rfl hL (by omega)
  have hv4 : vp_in (nI i + (4 : Int32)) L := lw_in (k := 4) rfl hL (by omega)
  have hv5 : vp_in (nI i + (5 : Int32)) L := lw_in (k := 5) rfl hL (by omega)
  refine lv_aload_n hx hb dd_L_law_1386 rfl (lv_at hl 1 rfl) ?_
  refine lv_aload_n hx hb dd_L_law_1387 rfl (lv_at hl 0 rfl) ?_
  refine lv_iload hx hb dd_L_law_1388 (lv_at hl 4 rfl) ?_
  refine lv_iconst (v := 1) hx hb dd_L_law_1390 (by decide) ?_
  refine lv_iadd hx hb dd_L_law_1391 ?_
  refine va_sld hx hb hX hbl hbA hw.2.2 hv1 dd_L_law_1392 ?_
  refine lv_aload_n hx hb dd_L_law_1393 rfl (lv_at hl 0 rfl) ?_
  refine lv_iload hx hb dd_L_law_1394 (lv_at hl 4 rfl) ?_
  refine lv_iconst (v := 2) hx hb dd_L_law_1396 (by decide) ?_
  refine lv_iadd hx hb dd_L_law_1397 ?_
  refine va_sld hx hb hX hbl hbA hw.2.2 hv2 dd_L_law_1398 ?_
  refine lv_aload_n hx hb dd_L_law_1399 rfl (lv_at hl 3 rfl) ?_
  obtain ⟨fs, post, xp, f0, hC, hS, hF⟩ := st_hydrantAt l hT z D ac sa P h0 hm ao th (xs (nI i + (1 : Int32)).toNatClampNeg) (xs (nI i + (2 : Int32)).toNatClampNeg) hI
  refine cx_afterX (cx_rSH (n := 4) (As := [.ref h0, .int (xs (nI i + (1 : Int32)).toNatClampNeg), .int (xs (nI i + (2 : Int32)).toNatClampNeg), .ref ao]) (rest := []) ⟨hx, hb, hml, hown, hg⟩ (w_hydrantAt l z D ac sa P h0 ao fs (xs (nI i + (1 : Int32)).toNatClampNeg) (xs (nI i + (2 : Int32)).toNatClampNeg) post xp hC (fun v P1 h => (hS v P1 h).elim (fun r h => h.elim (fun fo h => ⟨r, fo, h.1, h.2.1⟩))) (fun E P1 h => (hF E P1 h).elim (fun cd h => h.1.1)) f0) gch_L_hydrantAt gm_L_154 gt_L_hydrantAt gn_L (by decide +kernel) ⟨by decide, by decide⟩ hK hw rfl hl.1 rfl (Nat.le_of_ble_eq_true rfl) dd_L_law_1400 ⟨Nat.le_trans (by dsimp only; omega) hcs.1, Nat.le_trans (by dsimp only; omega) hcs.2⟩) hw (fun E9 ce9 q9 P9 H locs hp hw hce hcv hcl => hp.elim) (fun v9 P9 H locs hp hw => ?_)
  rcases hp with ⟨r, P1, fo, hp, fo9, rfl, e9⟩ | ⟨hp, rfl⟩
  · skip
    rw [e9] at hw
    clear e9 P9
    obtain ⟨r1, fo1, e1, -, hN⟩ := hS _ _ hp
    have e1 : r = r1 := Value.int.inj (Option.some.inj e1)
    subst e1
    obtain ⟨vs, mp, hv, hM, hE⟩ := hN (vp_updL fo 0 r.toInt64)
    refine W.eq (g2 := F0 m 1403 ls [.int (0 : Int32)]) rfl ?_
    refine lv_istore (lv' := [(5, .int (0 : Int32)), (0, .ref b), (1, .ref h0), (2, .ref hm), (3, .ref ao), (4, .int (nI i))]) hx hb dd_L_law_1403 hl (by decide) rfl (fun ls hl => ?_)
    refine lv_aload_n hx hb dd_L_law_1405 rfl (lv_at hl 3 rfl) ?_
    refine lv_aload_n hx hb dd_L_law_1406 rfl (lv_at hl 1 rfl) ?_
    refine lv_iload hx hb dd_L_law_1407 (lv_at hl 5 rfl) ?_
    refine lv_iconst (v := 1) hx hb dd_L_law_1409 (by decide) ?_
    refine lv_iadd hx hb dd_L_law_1410 ?_
    refine va_sld hx hb hX hbl hbA hw.2.2 hv1 dd_L_law_1411 ?_
    refine lv_aload_n hx hb dd_L_law_1412 rfl (lv_at hl 1 rfl) ?_
    refine lv_iload hx hb dd_L_law_1413 (lv_at hl 5 rfl) ?_
    refine lv_iconst (v := 2) hx hb dd_L_law_1415 (by decide) ?_
    refine lv_iadd hx hb dd_L_law_1416 ?_
    refine va_sld hx hb hX hbl hbA hw.2.2 hv2 dd_L_law_1417 ?_
    refine cx_after (cx_rV (n := 2) (As := [.int (xs (nI i + (1 : Int32)).toNatClampNeg), .int (xs (nI i + (2 : Int32)).toNatClampNeg)]) (rest := []) ⟨hx, hb, hml, hown, hg⟩ hM (cx_gv gm_L_156 gi_M_hydrantAt gs_M_hydrantAt gn_M gc_M_hydrantAt) (by decide +kernel) ⟨by decide, by decide⟩ hK hw hv rfl rfl hl.1 rfl (Nat.le_of_ble_eq_true rfl) dd_L_law_1418 ⟨Nat.le_trans (by dsimp only; omega) hcs.1, Nat.le_trans (by dsimp only; omega) hcs.2⟩) hw (fun v9 P3 H locs hp hw => ?_)
    obtain ⟨rfl, hI, hao⟩ := hE _ _ hp
    refine W.eq (g2 := F0 m 1421 ls [.int r]) rfl ?_
    refine lv_istore (lv' := [(6, .int r), (5, .int (0 : Int32)), (0, .ref b), (1, .ref h0), (2, .ref hm), (3, .ref ao), (4, .int (nI i))]) hx hb dd_L_law_1421 hl (by decide) rfl (fun ls hl => ?_)
    refine lv_aload_n hx hb dd_L_law_1423 rfl (lv_at hl 4 rfl) ?_
    obtain ⟨vs9, hv9, hM9⟩ := iv_thr (l := l) (z := z) (D := D) (sa := sa) hI
    refine cx_after (cx_rV (n := 0) (As := []) (rest := []) ⟨hx, hb, hml, hown, hg⟩ hM9 (cx_gv gm_L_90 gi_M_thrown gs_M_thrown gn_M gc_M_thrown) (by decide +kernel) ⟨by decide, by decide⟩ hK hw hv9 rfl rfl hl.1 rfl (Nat.le_of_ble_eq_true rfl) dd_L_law_1424 ⟨Nat.le_trans (by dsimp only; omega) hcs.1, Nat.le_trans (by dsimp only; omega) hcs.2⟩) hw (fun v9 P9 H locs hp hw => ?_)
    obtain ⟨rfl, e9⟩ := hp
    rw [e9] at hw
    clear e9 P9
    refine W.eq (g2 := F0 m 1427 ls [.int (0 : Int32)]) rfl ?_
    refine lv_iload hx hb dd_L_law_1427 (lv_at hl 1 rfl) ?_
    refine lv_icmp_eq (tgt := 1434) hx hb dd_L_law_1429 (by decide) (fun c1 => ?_) (fun c1 => absurd (by decide) c1)
    refine lv_iload hx hb dd_L_law_1434 (lv_at hl 1 rfl) ?_
    refine lv_if_ne (tgt := 1451) hx hb dd_L_law_1436 (by decide) (fun c2 => absurd (by decide) c2) (fun c2 => ?_)
    refine lv_aload_n hx hb dd_L_law_1439 rfl (lv_at hl 5 rfl) ?_
    refine lv_iconst (v := 0) hx hb dd_L_law_1440 (by decide) ?_
    refine pm_lald hx hb hK.2.1 hw 1 hao rfl (show vp_in (0 : Int32) 1 from vp_in_nI (n := 0) (by decide) (by decide)) dd_L_law_1441 ?_
    refine lv_iload hx hb dd_L_law_1442 (lv_at hl 0 rfl) ?_
    refine lv_i2l hx hb dd_L_law_1444 rfl ?_
    refine W.lcmp hx hb dd_L_law_1445 ?_
    refine lv_if_eq (tgt := 1451) hx hb dd_L_law_1446 (by decide) (fun c3 => ?_) (fun c3 => absurd (lw_cmp rfl) c3)
    refine lv_goto (tgt := 1454) hx hb dd_L_law_1451 (by decide) ?_
    refine W.widen (k := cells + 16) (n := slots + 64) (by dsimp only; omega) (by dsimp only; omega) ?_
    exact kk P3 0 H _ ls hI hw (lv_sub hl [2, 3, 4, 5, 6] rfl)
  · skip
    obtain ⟨cd, hcd, vs, mp, hv, hM, hE⟩ := hF _ _ hp
    have hcd : cd = 1 := hcd.2
    subst hcd
    refine W.eq (g2 := F0 m 1403 ls [.int (1 : Int32)]) rfl ?_
    refine lv_istore (lv' := [(5, .int (1 : Int32)), (0, .ref b), (1, .ref h0), (2, .ref hm), (3, .ref ao), (4, .int (nI i))]) hx hb dd_L_law_1403 hl (by decide) rfl (fun ls hl => ?_)
    refine lv_aload_n hx hb dd_L_law_1405 rfl (lv_at hl 3 rfl) ?_
    refine lv_aload_n hx hb dd_L_law_1406 rfl (lv_at hl 1 rfl) ?_
    refine lv_iload hx hb dd_L_law_1407 (lv_at hl 5 rfl) ?_
    refine lv_iconst (v := 1) hx hb dd_L_law_1409 (by decide) ?_
    refine lv_iadd hx hb dd_L_law_1410 ?_
    refine va_sld hx hb hX hbl hbA hw.2.2 hv1 dd_L_law_1411 ?_
    refine lv_aload_n hx hb dd_L_law_1412 rfl (lv_at hl 1 rfl) ?_
    refine lv_iload hx hb dd_L_law_1413 (lv_at hl 5 rfl) ?_
    refine lv_iconst (v := 2) hx hb dd_L_law_1415 (by decide) ?_
    refine lv_iadd hx hb dd_L_law_1416 ?_
    refine va_sld hx hb hX hbl hbA hw.2.2 hv2 dd_L_law_1417 ?_
    refine cx_after (cx_rV (n := 2) (As := [.int (xs (nI i + (1 : Int32)).toNatClampNeg), .int (xs (nI i + (2 : Int32)).toNatClampNeg)]) (rest := []) ⟨hx, hb, hml, hown, hg⟩ hM (cx_gv gm_L_156 gi_M_hydrantAt gs_M_hydrantAt gn_M gc_M_hydrantAt) (by decide +kernel) ⟨by decide, by decide⟩ hK hw hv rfl rfl hl.1 rfl (Nat.le_of_ble_eq_true rfl) dd_L_law_1418 ⟨Nat.le_trans (by dsimp only; omega) hcs.1, Nat.le_trans (by dsimp only; omega) hcs.2⟩) hw (fun v9 P3 H locs hp hw => ?_)
    obtain ⟨⟨b9, rfl⟩, hI⟩ := hE _ _ hp
    refine W.eq (g2 := F0 m 1421 ls [.int b9]) rfl ?_
    refine lv_istore (lv' := [(6, .int b9), (5, .int (1 : Int32)), (0, .ref b), (1, .ref h0), (2, .ref hm), (3, .ref ao), (4, .int (nI i))]) hx hb dd_L_law_1421 hl (by decide) rfl (fun ls hl => ?_)
    refine lv_aload_n hx hb dd_L_law_1423 rfl (lv_at hl 4 rfl) ?_
    obtain ⟨vs9, hv9, hM9⟩ := iv_thr (l := l) (z := z) (D := D) (sa := sa) hI
    refine cx_after (cx_rV (n := 0) (As := []) (rest := []) ⟨hx, hb, hml, hown, hg⟩ hM9 (cx_gv gm_L_90 gi_M_thrown gs_M_thrown gn_M gc_M_thrown) (by decide +kernel) ⟨by decide, by decide⟩ hK hw hv9 rfl rfl hl.1 rfl (Nat.le_of_ble_eq_true rfl) dd_L_law_1424 ⟨Nat.le_trans (by dsimp only; omega) hcs.1, Nat.le_trans (by dsimp only; omega) hcs.2⟩) hw (fun v9 P9 H locs hp hw => ?_)
    obtain ⟨rfl, e9⟩ := hp
    rw [e9] at hw
    clear e9 P9
    refine W.eq (g2 := F0 m 1427 ls [.int (1 : Int32)]) rfl ?_
    refine lv_iload hx hb dd_L_law_1427 (lv_at hl 1 rfl) ?_
    refine lv_icmp_eq (tgt := 1434) hx hb dd_L_law_1429 (by decide) (fun c4 => ?_) (fun c4 => absurd (by decide) c4)
    refine lv_iload hx hb dd_L_law_1434 (lv_at hl 1 rfl) ?_
    refine lv_if_ne (tgt := 1451) hx hb dd_L_law_1436 (by decide) (fun c5 => ?_) (fun c5 => absurd c5 (by decide))
    refine lv_goto (tgt := 1454) hx hb dd_L_law_1451 (by decide) ?_
    refine W.widen (k := cells + 16) (n := slots + 64) (by dsimp only; omega) (by dsimp only; omega) ?_
    exact kk P3 1 H _ ls hI hw (lv_sub hl [2, 3, 4, 5, 6] rfl)
