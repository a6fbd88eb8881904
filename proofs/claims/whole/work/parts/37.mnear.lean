def su_bh (wt : Nat → Int32) (o : Option Nat) (h : Nat) : Bool := match o with
  | none => true
  | some l => if wt l < wt h then true else if wt h = wt l then (if h ≤ l then false else true) else false
def su_nx (us wt : Nat → Int32) (o : Option Nat) : Nat → Option Nat
  | 0 => none
  | h + 1 => if us h = 0 then su_nx us wt o h else if su_bh wt o h = true then (match su_nx us wt o h with
    | none => some h
    | some x => if wt x ≤ wt h then some x else some h) else su_nx us wt o h
def su_kt (us wt : Nat → Int32) (n : Nat) : Nat → Option Nat
  | 0 => su_nx us wt none n
  | k + 1 => match su_kt us wt n k with
    | none => none
    | some l => su_nx us wt (some l) n
theorem su_nx_lt {us wt : Nat → Int32} {o : Option Nat} : ∀ {h x : Nat}, su_nx us wt o h = some x → x < h
  | 0, x, e => by cases e
  | h + 1, x, e => by
    simp only [su_nx] at e
    by_cases h1 : us h = 0
    · rw [if_pos h1] at e; have := su_nx_lt e; omega
    · rw [if_neg h1] at e
      by_cases h2 : su_bh wt o h = true
      · rw [if_pos h2] at e
        rcases hq : su_nx us wt o h with _ | y
        · rw [hq] at e; cases e; omega
        · rw [hq] at e
          have h3 := su_nx_lt hq
          by_cases h4 : wt y ≤ wt h
          · simp only [h4, if_true] at e; cases e; omega
          · simp only [h4, if_false] at e; cases e; omega
      · rw [if_neg h2] at e; have := su_nx_lt e; omega
/-- the last one that was found, ahead of round k -/
def su_pk (us wt : Nat → Int32) (n : Nat) : Nat → Option Nat
  | 0 => none
  | k + 1 => su_kt us wt n k
theorem su_pk_nx {us wt : Nat → Int32} {n : Nat} : ∀ {k : Nat}, (k = 0 ∨ ¬ su_pk us wt n k = none) → su_kt us wt n k = su_nx us wt (su_pk us wt n k) n
  | 0, _ => rfl
  | k + 1, h => by
    rcases h with h | h
    · cases h
    · show (match su_kt us wt n k with | none => none | some l => su_nx us wt (some l) n) = su_nx us wt (su_kt us wt n k) n
      rcases hq : su_kt us wt n k with _ | l
      · exact absurd hq h
      · rfl
theorem su_kt_none {us wt : Nat → Int32} {n k : Nat} (h : su_kt us wt n k = none) : ∀ m, su_kt us wt n (k + m) = none
  | 0 => h
  | m + 1 => by
    show (match su_kt us wt n (k + m) with | none => none | some l => su_nx us wt (some l) n) = none
    rw [su_kt_none h m]
theorem su_pk_lt {us wt : Nat → Int32} {n : Nat} : ∀ {k x : Nat}, su_pk us wt n k = some x → x < n
  | 0, x, e => by cases e
  | k + 1, x, e => by
    have e : su_kt us wt n k = some x := e
    rcases k with _ | k
    · exact su_nx_lt e
    · rcases hq : su_kt us wt n k with _ | l
      · rw [su_kt, hq] at e; cases e
      · rw [su_kt, hq] at e; exact su_nx_lt e

set_option maxHeartbeats 4000000 in
set_option maxRecDepth 100000 in
theorem c_M_nearC (l : Launch) (z : Nat) (D : va_G) (ac : Nat → ClassId) (sa : Nat → Nat) (P : pm_T) (h0 : Nat) (ma : Nat → Nat) (mv : Nat → Nat → Int32) (th al so : Int32) (n t : Nat) (hn40 : n ≤ 40) (ht100 : t ≤ 100) (p1 p2 : Int32) (hpl : su_pm p1 p2 = 1) (dd : Nat) (hdd : dd ≤ 99999) (wn : Nat → Nat) (hwn : ∀ j, j < n → wn j ≤ 3 ∧ mv 5 j = nI (wn j)) (i9 : Nat) (hi9 : i9 < 2 ^ 31) (hov : ∀ k, ¬ su_kt (fun j => su_mus mv al j dd (wn j)) (fun j => su_mh mv p1 p2 j) n k = none → k + 1 < 2 ^ 31) (mw : md_W P ac h0 ma mv th (nI n) al (nI t) so)  : cx_M l yy_M_near bb_M_near 10 (some .int) ({ frames := 3, cells := 0, slots := 0, locals := 90 } : Room) z D ac sa P [.ref h0, .int p1, .int p2, .int (nI dd), .int (nI i9)] (fun v P' => v = some (.int (su_oi (su_kt (fun j => su_mus mv al j dd (wn j)) (fun j => su_mh mv p1 p2 j) n i9))) ∧ md_W P' ac h0 ma mv 0 (nI n) al (nI t) so ∧ md_F P P' h0 ma) := by
  refine cx_ofM (by decide) (Nat.le_of_ble_eq_true rfl) (fun p e s m below meth c ls hx hb hr hml hg hown hlocks hin hK hw hl => ?_)
  have hl : lv_has ls 10 [(0, .ref h0), (1, .int p1), (2, .int p2), (3, .int (nI dd)), (4, .int (nI i9))] := hl
  have hown : s.vm.findClass cn_M = some m.cls := hown
  refine lv_aload_n hx hb dd_M_near_0 rfl (lv_at hl 0 rfl) ?_
  refine lv_iload_n hx hb dd_M_near_1 rfl (lv_at hl 1 rfl) ?_
  refine lv_iload_n hx hb dd_M_near_2 rfl (lv_at hl 2 rfl) ?_
  refine cx_after (cx_rS (n := 2) (As := [.int p1, .int p2]) (rest := [.ref h0]) ⟨hx, hb, hml, hown, hg⟩ (c_M_isPlace l z D ac sa P p1 p2) (cx_gs gm_M_79 gt_M_isPlace gn_M gc_M_isPlace) (by decide +kernel) ⟨by decide, by decide⟩ hK hw rfl hl.1 rfl (Nat.le_of_ble_eq_true rfl) dd_M_near_3 ⟨by decide, by decide⟩) hw (fun v9 P9 H locs hp hw => ?_)
  obtain ⟨rfl, e9⟩ := hp
  rw [e9] at hw
  clear e9 P9
  refine W.eq (g2 := F0 m 6 ls [.int (su_pm p1 p2), .ref h0]) rfl ?_
  refine W.eq (g2 := F0 m 6 ls [.int (1 : Int32), .ref h0]) (by rw [show (su_pm p1 p2) = (1 : Int32) from hpl]) ?_
  refine lv_if_eq (tgt := 25) hx hb dd_M_near_6 (by decide) (fun c31 => absurd c31 (by decide)) (fun c31 => ?_)
  refine lv_iload_n hx hb dd_M_near_9 rfl (lv_at hl 3 rfl) ?_
  refine cx_after (cx_rS (n := 1) (As := [.int (nI dd)]) (rest := [.ref h0]) ⟨hx, hb, hml, hown, hg⟩ (c_M_isDay l z D ac sa P (nI dd)) (cx_gs gm_M_98 gt_M_isDay gn_M gc_M_isDay) (by decide +kernel) ⟨by decide, by decide⟩ hK hw rfl hl.1 rfl (Nat.le_of_ble_eq_true rfl) dd_M_near_10 ⟨by decide, by decide⟩) hw (fun v9 P9 H locs hp hw => ?_)
  obtain ⟨rfl, e9⟩ := hp
  rw [e9] at hw
  clear e9 P9
  refine W.eq (g2 := F0 m 13 ls [.int (su_in (nI dd) 0 99999), .ref h0]) rfl ?_
  refine W.eq (g2 := F0 m 13 ls [.int (1 : Int32), .ref h0]) (by rw [show (su_in (nI dd) 0 99999) = (1 : Int32) from su_in_1 (b := 99999) (by decide) hdd rfl]) ?_
  refine lv_if_eq (tgt := 25) hx hb dd_M_near_13 (by decide) (fun c32 => absurd c32 (by decide)) (fun c32 => ?_)
  refine lv_iload hx hb dd_M_near_16 (lv_at hl 4 rfl) ?_
  refine lv_if_lt (tgt := 25) hx hb dd_M_near_18 (by decide) (fun c33 => absurd c33 (nI_pos hi9)) (fun c33 => ?_)
  refine lv_iconst (v := 1) hx hb dd_M_near_21 (by decide) ?_
  refine lv_goto (tgt := 26) hx hb dd_M_near_22 (by decide) ?_
  refine lv_iconst (v := 1) hx hb dd_M_near_26 (by decide) ?_
  refine lv_iconst (v := 1) hx hb dd_M_near_27 (by decide) ?_
  refine lv_iconst (v := 1) hx hb dd_M_near_28 (by decide) ?_
  refine cx_after (cx_rV (n := 4) (As := [.int (1 : Int32), .int (1 : Int32), .int (1 : Int32), .int (1 : Int32)]) (rest := []) ⟨hx, hb, hml, hown, hg⟩ (c_M_goes l z D ac sa P h0 ma mv th (nI n) al (nI t) so (1 : Int32) (1 : Int32) (1 : Int32) (1 : Int32) mw) (cx_gv gm_M_83 gi_M_goes gs_M_goes gn_M gc_M_goes) (by decide +kernel) ⟨by decide, by decide⟩ hK hw mw.1 rfl rfl hl.1 rfl (Nat.le_of_ble_eq_true rfl) dd_M_near_29 ⟨by decide, by decide⟩) hw (fun v9 P9 H locs hp hw => ?_)
  obtain ⟨rfl, e9⟩ := hp
  rw [e9] at hw
  clear e9 P9
  refine W.eq (g2 := F0 m 32 ls [.int (if (su_gs (1 : Int32) (1 : Int32) (1 : Int32) (1 : Int32)) = 0 then 1 else 0)]) rfl ?_
  obtain ⟨P34, eP34⟩ : ∃ pmv : pm_T, pmv = pm_up P h0 (md_o ma (su_gs (1 : Int32) (1 : Int32) (1 : Int32) (1 : Int32)) (nI n) al (nI t) so) := ⟨_, rfl⟩
  have hw : pm_W z D cl_w (pm_up P h0 (md_o ma (su_gs (1 : Int32) (1 : Int32) (1 : Int32) (1 : Int32)) (nI n) al (nI t) so)) s.heap H _ := hw
  rw [← eP34] at hw
  have mwP34 : md_W P34 ac h0 ma mv (su_gs (1 : Int32) (1 : Int32) (1 : Int32) (1 : Int32)) (nI n) al (nI t) so := by rw [eP34]; exact md_W.obj mw
  have mfP34 : md_F P P34 h0 ma := by rw [eP34]; exact md_F.obj md_F.rf
  refine W.eq (g2 := F0 m 32 ls [.int (1 : Int32)]) (by rw [show (if (su_gs (1 : Int32) (1 : Int32) (1 : Int32) (1 : Int32)) = 0 then 1 else 0) = (1 : Int32) from by decide]) ?_
  refine lv_if_ne (tgt := 37) hx hb dd_M_near_32 (by decide) (fun c35 => ?_) (fun c35 => absurd c35 (by decide))
  refine lv_iconst (v := (-1)) hx hb dd_M_near_37 (by decide) ?_
  refine lv_istore (lv' := [(5, .int (-1 : Int32)), (0, .ref h0), (1, .int p1), (2, .int p2), (3, .int (nI dd)), (4, .int (nI i9))]) hx hb dd_M_near_38 hl (by decide) rfl (fun ls hl => ?_)
  refine lv_iconst (v := 0) hx hb dd_M_near_40 (by decide) ?_
  refine lv_istore (lv' := [(6, .int (0 : Int32)), (5, .int (-1 : Int32)), (0, .ref h0), (1, .int p1), (2, .int p2), (3, .int (nI dd)), (4, .int (nI i9))]) hx hb dd_M_near_41 hl (by decide) rfl (fun ls hl => ?_)
  have lp : ∀ (n9 k : Nat), k + n9 = i9 + 1 → (k = 0 ∨ ¬ (su_pk (fun j => su_mus mv al j dd (wn j)) (fun j => su_mh mv p1 p2 j) n k) = none) → ∀ (o5 : Int32) (H : Heap) (locs : List Loc) (ls : Array Slot), o5 = su_oi (su_pk (fun j => su_mus mv al j dd (wn j)) (fun j => su_mh mv p1 p2 j) n k) → pm_W z D cl_w P34 s.heap H locs → lv_has ls 10 [(6, .int (nI k)), (5, .int o5), (0, .ref h0), (1, .int p1), (2, .int p2), (3, .int (nI dd)), (4, .int (nI i9))] → W p l e ({ frames := 3, cells := 0, slots := 0, locals := 90 } : Room) s m ([.ref h0, .int p1, .int p2, .int (nI dd), .int (nI i9)] : List Value).toArray below meth c H locs 0 0 (MQ below (cx_Q z D (fun v P' => v = some (.int (su_oi (su_kt (fun j => su_mus mv al j dd (wn j)) (fun j => su_mh mv p1 p2 j) n i9))) ∧ md_W P' ac h0 ma mv 0 (nI n) al (nI t) so ∧ md_F P P' h0 ma)) ([.ref h0, .int p1, .int p2, .int (nI dd), .int (nI i9)] : List Value).toArray s ({ frames := 3, cells := 0, slots := 0, locals := 90 } : Room).cells ({ frames := 3, cells := 0, slots := 0, locals := 90 } : Room).slots (pm_A z)) (F0 m 43 ls []) := by
    intro n9
    induction n9 with
    | zero =>
      intro k hk hrel o5 H locs ls e5 hw hl
      have hk : k = i9 + 1 := by omega
      have hk2 := hov i9 (by rw [hk] at hrel; exact hrel.resolve_left (by omega))
      refine lv_iload hx hb dd_M_near_43 (lv_at hl 0 rfl) ?_
      refine lv_iload hx hb dd_M_near_45 (lv_at hl 6 rfl) ?_
      refine lv_icmp_gt (tgt := 191) hx hb dd_M_near_47 (by decide) (fun c36 => ?_) (fun c36 => absurd (by rw [hk]; exact nI_lt (by omega) (by omega)) c36)
      refine lv_iload hx hb dd_M_near_191 (lv_at hl 1 rfl) ?_
      refine cx_iret (v := o5) hx hb hr rfl hlocks hw dd_M_near_193 (by decide) (by decide) ?_
      exact ⟨by rw [e5, hk]; rfl, mwP34, mfP34⟩
    | succ n9 ih =>
      intro k hk hrel o5 H locs ls e5 hw hl
      have hki : k ≤ i9 := by omega
      have hstep := su_pk_nx hrel
      have inner : ∀ (m9 h : Nat), h + m9 = n → ∀ (o7 : Int32) (H : Heap) (locs : List Loc) (ls : Array Slot), o7 = su_oi (su_nx (fun j => su_mus mv al j dd (wn j)) (fun j => su_mh mv p1 p2 j) (su_pk (fun j => su_mus mv al j dd (wn j)) (fun j => su_mh mv p1 p2 j) n k) h) → pm_W z D cl_w P34 s.heap H locs → lv_has ls 10 [(8, .int (nI h)), (7, .int o7), (6, .int (nI k)), (5, .int o5), (0, .ref h0), (1, .int p1), (2, .int p2), (3, .int (nI dd)), (4, .int (nI i9))] → W p l e ({ frames := 3, cells := 0, slots := 0, locals := 90 } : Room) s m ([.ref h0, .int p1, .int p2, .int (nI dd), .int (nI i9)] : List Value).toArray below meth c H locs 0 0 (MQ below (cx_Q z D (fun v P' => v = some (.int (su_oi (su_kt (fun j => su_mus mv al j dd (wn j)) (fun j => su_mh mv p1 p2 j) n i9))) ∧ md_W P' ac h0 ma mv 0 (nI n) al (nI t) so ∧ md_F P P' h0 ma)) ([.ref h0, .int p1, .int p2, .int (nI dd), .int (nI i9)] : List Value).toArray s ({ frames := 3, cells := 0, slots := 0, locals := 90 } : Room).cells ({ frames := 3, cells := 0, slots := 0, locals := 90 } : Room).slots (pm_A z)) (F0 m 56 ls []) := by
        intro m9
        induction m9 with
        | zero =>
          intro h hh o7 H locs ls e7 hw hl
          have hh : h = n := by omega
          rw [hh, ← hstep] at e7
          rcases hq : (su_kt (fun j => su_mus mv al j dd (wn j)) (fun j => su_mh mv p1 p2 j) n k) with _ | x
          · rw [hq] at e7
            refine lv_iload hx hb dd_M_near_56 (lv_at hl 0 rfl) ?_
            refine lv_aload_n hx hb dd_M_near_58 rfl (lv_at hl 4 rfl) ?_
            refine pm_get (ci := 6) (C := cn_M) (T := cf_M) (N := 23) (v := .int (nI n)) hx hb hg gu_M hown hK.2.1 hw mwP34.1 rfl 1 (by decide) (hg _ gf_M_69) (fun _ h9 => h9) rfl dd_M_near_59 ?_
            refine lv_icmp_ge (tgt := 174) hx hb dd_M_near_62 (by decide) (fun c37 => ?_) (fun c37 => absurd (by rw [hh]; exact Int32.le_refl _) c37)
            refine lv_iload hx hb dd_M_near_174 (lv_at hl 1 rfl) ?_
            refine lv_if_ge (tgt := 181) hx hb dd_M_near_176 (by decide) (fun c38 => absurd c38 (by rw [e7]; decide)) (fun c38 => ?_)
            refine lv_iconst (v := (-1)) hx hb dd_M_near_179 (by decide) ?_
            refine cx_iret (v := (-1 : Int32)) hx hb hr rfl hlocks hw dd_M_near_180 (by decide) (by decide) ?_
            exact ⟨by rw [show i9 = k + (i9 - k) from by omega, su_kt_none hq]; rfl, mwP34, mfP34⟩
          · rw [hq] at e7
            have hk2 := hov k (by rw [hq]; exact fun h8 => nomatch h8)
            have hxn : x < n := su_pk_lt (k := k + 1) hq
            refine lv_iload hx hb dd_M_near_56 (lv_at hl 0 rfl) ?_
            refine lv_aload_n hx hb dd_M_near_58 rfl (lv_at hl 4 rfl) ?_
            refine pm_get (ci := 6) (C := cn_M) (T := cf_M) (N := 23) (v := .int (nI n)) hx hb hg gu_M hown hK.2.1 hw mwP34.1 rfl 1 (by decide) (hg _ gf_M_69) (fun _ h9 => h9) rfl dd_M_near_59 ?_
            refine lv_icmp_ge (tgt := 174) hx hb dd_M_near_62 (by decide) (fun c39 => ?_) (fun c39 => absurd (by rw [hh]; exact Int32.le_refl _) c39)
            refine lv_iload hx hb dd_M_near_174 (lv_at hl 1 rfl) ?_
            refine lv_if_ge (tgt := 181) hx hb dd_M_near_176 (by decide) (fun c40 => ?_) (fun c40 => absurd (by rw [e7]; exact nI_pos' (by omega)) c40)
            refine lv_iload hx hb dd_M_near_181 (lv_at hl 1 rfl) ?_
            refine lv_istore (lv' := [(5, .int o7), (8, .int (nI h)), (7, .int o7), (6, .int (nI k)), (0, .ref h0), (1, .int p1), (2, .int p2), (3, .int (nI dd)), (4, .int (nI i9))]) hx hb dd_M_near_183 hl (by decide) rfl (fun ls hl => ?_)
            obtain ⟨x41, ex41⟩ : ∃ y : Int32, y = (nI k) + 1 := ⟨_, rfl⟩
            refine lv_iinc (v := x41) (lv' := [(6, .int x41), (5, .int o7), (8, .int (nI h)), (7, .int o7), (0, .ref h0), (1, .int p1), (2, .int p2), (3, .int (nI dd)), (4, .int (nI i9))]) hx hb dd_M_near_185 hl (k := 3) rfl (by rw [ex41]; rfl) (by decide) rfl (fun ls hl => ?_)
            refine lv_goto (tgt := 43) hx hb dd_M_near_188 (by decide) ?_
            have hi7 : x41 = nI (k + 1) := by rw [ex41]; exact nI_1 k
            rw [hi7] at hl
            exact ih (k + 1) (by omega) (.inr (by show ¬ (su_kt (fun j => su_mus mv al j dd (wn j)) (fun j => su_mh mv p1 p2 j) n k) = none; rw [hq]; exact fun h8 => nomatch h8)) o7 H _ ls (by rw [e7]; show su_oi (some x) = su_oi (su_kt (fun j => su_mus mv al j dd (wn j)) (fun j => su_mh mv p1 p2 j) n k); rw [hq]) hw (lv_sub hl [0, 1, 4, 5, 6, 7, 8] rfl)
        | succ m9 jh =>
          intro h hh o7 H locs ls e7 hw hl
          have hhn : h < n := by omega
          rcases hl5 : (su_pk (fun j => su_mus mv al j dd (wn j)) (fun j => su_mh mv p1 p2 j) n k) with _ | l5
          · skip
            rcases hq7 : (su_nx (fun j => su_mus mv al j dd (wn j)) (fun j => su_mh mv p1 p2 j) (su_pk (fun j => su_mus mv al j dd (wn j)) (fun j => su_mh mv p1 p2 j) n k) h) with _ | x7
            · skip
              have h5 : o5 = -1 := by rw [e5, hl5]; rfl
              have h7 : o7 = -1 := by rw [e7, hq7]; rfl
              rw [h5, h7] at hl
              rw [hl5] at hq7
              refine lv_iload hx hb dd_M_near_56 (lv_at hl 0 rfl) ?_
              refine lv_aload_n hx hb dd_M_near_58 rfl (lv_at hl 4 rfl) ?_
              refine pm_get (ci := 6) (C := cn_M) (T := cf_M) (N := 23) (v := .int (nI n)) hx hb hg gu_M hown hK.2.1 hw mwP34.1 rfl 1 (by decide) (hg _ gf_M_69) (fun _ h9 => h9) rfl dd_M_near_59 ?_
              refine lv_icmp_ge (tgt := 174) hx hb dd_M_near_62 (by decide) (fun c42 => absurd c42 (nI_ge hhn (by omega))) (fun c42 => ?_)
              refine lv_aload_n hx hb dd_M_near_65 rfl (lv_at hl 4 rfl) ?_
              refine lv_iload hx hb dd_M_near_66 (lv_at hl 0 rfl) ?_
              refine lv_iload_n hx hb dd_M_near_68 rfl (lv_at hl 7 rfl) ?_
              refine cx_after (cx_rV (n := 2) (As := [.int (nI h), .int (nI dd)]) (rest := []) ⟨hx, hb, hml, hown, hg⟩ (c_M_isUsable l z D ac sa P34 h0 ma mv (su_gs (1 : Int32) (1 : Int32) (1 : Int32) (1 : Int32)) al so n t hn40 ht100 h (by omega) dd hdd (wn h) (hwn h (by omega)).1 (hwn h (by omega)).2 mwP34) (cx_gv gm_M_121 gi_M_isUsable gs_M_isUsable gn_M gc_M_isUsable) (by decide +kernel) ⟨by decide, by decide⟩ hK hw mwP34.1 rfl rfl hl.1 rfl (Nat.le_of_ble_eq_true rfl) dd_M_near_69 ⟨by decide, by decide⟩) hw (fun v9 P9 H locs hp hw => ?_)
              obtain ⟨rfl, e9⟩ := hp
              rw [e9] at hw
              clear e9 P9
              refine W.eq (g2 := F0 m 72 ls [.int (su_mus mv al h dd (wn h))]) rfl ?_
              refine lv_if_ne (tgt := 78) hx hb dd_M_near_72 (by decide) (fun c43 => ?_) (fun c43 => ?_)
              · skip
                refine lv_iload hx hb dd_M_near_78 (lv_at hl 3 rfl) ?_
                refine lv_if_lt (tgt := 128) hx hb dd_M_near_80 (by decide) (fun c44 => ?_) (fun c44 => absurd (by decide) c44)
                refine lv_iconst (v := 1) hx hb dd_M_near_128 (by decide) ?_
                refine lv_goto (tgt := 133) hx hb dd_M_near_129 (by decide) ?_
                refine lv_istore (lv' := [(9, .int (1 : Int32)), (8, .int (nI h)), (7, .int (-1 : Int32)), (6, .int (nI k)), (5, .int (-1 : Int32)), (0, .ref h0), (1, .int p1), (2, .int p2), (3, .int (nI dd)), (4, .int (nI i9))]) hx hb dd_M_near_133 hl (by decide) rfl (fun ls hl => ?_)
                refine lv_iload hx hb dd_M_near_135 (lv_at hl 0 rfl) ?_
                refine lv_if_eq (tgt := 168) hx hb dd_M_near_137 (by decide) (fun c45 => absurd c45 (by decide)) (fun c45 => ?_)
                refine lv_iload hx hb dd_M_near_140 (lv_at hl 2 rfl) ?_
                refine lv_if_lt (tgt := 164) hx hb dd_M_near_142 (by decide) (fun c46 => ?_) (fun c46 => absurd (by decide) c46)
                refine lv_iload hx hb dd_M_near_164 (lv_at hl 1 rfl) ?_
                refine lv_istore (lv' := [(7, .int (nI h)), (9, .int (1 : Int32)), (8, .int (nI h)), (6, .int (nI k)), (5, .int (-1 : Int32)), (0, .ref h0), (1, .int p1), (2, .int p2), (3, .int (nI dd)), (4, .int (nI i9))]) hx hb dd_M_near_166 hl (by decide) rfl (fun ls hl => ?_)
                obtain ⟨x47, ex47⟩ : ∃ y : Int32, y = (nI h) + 1 := ⟨_, rfl⟩
                refine lv_iinc (v := x47) (lv' := [(8, .int x47), (7, .int (nI h)), (9, .int (1 : Int32)), (6, .int (nI k)), (5, .int (-1 : Int32)), (0, .ref h0), (1, .int p1), (2, .int p2), (3, .int (nI dd)), (4, .int (nI i9))]) hx hb dd_M_near_168 hl (k := 2) rfl (by rw [ex47]; rfl) (by decide) rfl (fun ls hl => ?_)
                refine lv_goto (tgt := 56) hx hb dd_M_near_171 (by decide) ?_
                have hi7 : x47 = nI (h + 1) := by rw [ex47]; exact nI_1 h
                rw [hi7] at hl
                exact jh (h + 1) (by omega) (nI h) H _ ls (by simp only [su_nx, su_bh, hl5, hq7, if_neg c43, if_true, Bool.false_eq_true, if_false]; rfl) hw (lv_sub (show lv_has ls 10 [(8, .int (nI (h + 1))), (7, .int (nI h)), (9, .int (1 : Int32)), (6, .int (nI k)), (5, .int o5), (0, .ref h0), (1, .int p1), (2, .int p2), (3, .int (nI dd)), (4, .int (nI i9))] from by rw [h5] ; exact hl) [0, 1, 3, 4, 5, 6, 7, 8, 9] rfl)
              · skip
                refine lv_goto (tgt := 168) hx hb dd_M_near_75 (by decide) ?_
                obtain ⟨x48, ex48⟩ : ∃ y : Int32, y = (nI h) + 1 := ⟨_, rfl⟩
                refine lv_iinc (v := x48) (lv' := [(8, .int x48), (7, .int (-1 : Int32)), (6, .int (nI k)), (5, .int (-1 : Int32)), (0, .ref h0), (1, .int p1), (2, .int p2), (3, .int (nI dd)), (4, .int (nI i9))]) hx hb dd_M_near_168 hl (k := 0) rfl (by rw [ex48]; rfl) (by decide) rfl (fun ls hl => ?_)
                refine lv_goto (tgt := 56) hx hb dd_M_near_171 (by decide) ?_
                have hi7 : x48 = nI (h + 1) := by rw [ex48]; exact nI_1 h
                rw [hi7] at hl
                exact jh (h + 1) (by omega) (-1 : Int32) H _ ls (by simp only [su_nx, su_bh, hl5, hq7, if_pos c43, if_true, Bool.false_eq_true, if_false]; rfl) hw (lv_sub (show lv_has ls 10 [(8, .int (nI (h + 1))), (7, .int (-1 : Int32)), (6, .int (nI k)), (5, .int o5), (0, .ref h0), (1, .int p1), (2, .int p2), (3, .int (nI dd)), (4, .int (nI i9))] from by rw [h5] ; exact hl) [0, 1, 2, 3, 4, 5, 6, 7, 8] rfl)
            · skip
              have h5 : o5 = -1 := by rw [e5, hl5]; rfl
              have h7 : o7 = nI x7 := by rw [e7, hq7]; rfl
              have hx7 : x7 < h := su_nx_lt hq7
              rw [h5, h7] at hl
              rw [hl5] at hq7
              refine lv_iload hx hb dd_M_near_56 (lv_at hl 0 rfl) ?_
              refine lv_aload_n hx hb dd_M_near_58 rfl (lv_at hl 4 rfl) ?_
              refine pm_get (ci := 6) (C := cn_M) (T := cf_M) (N := 23) (v := .int (nI n)) hx hb hg gu_M hown hK.2.1 hw mwP34.1 rfl 1 (by decide) (hg _ gf_M_69) (fun _ h9 => h9) rfl dd_M_near_59 ?_
              refine lv_icmp_ge (tgt := 174) hx hb dd_M_near_62 (by decide) (fun c49 => absurd c49 (nI_ge hhn (by omega))) (fun c49 => ?_)
              refine lv_aload_n hx hb dd_M_near_65 rfl (lv_at hl 4 rfl) ?_
              refine lv_iload hx hb dd_M_near_66 (lv_at hl 0 rfl) ?_
              refine lv_iload_n hx hb dd_M_near_68 rfl (lv_at hl 7 rfl) ?_
              refine cx_after (cx_rV (n := 2) (As := [.int (nI h), .int (nI dd)]) (rest := []) ⟨hx, hb, hml, hown, hg⟩ (c_M_isUsable l z D ac sa P34 h0 ma mv (su_gs (1 : Int32) (1 : Int32) (1 : Int32) (1 : Int32)) al so n t hn40 ht100 h (by omega) dd hdd (wn h) (hwn h (by omega)).1 (hwn h (by omega)).2 mwP34) (cx_gv gm_M_121 gi_M_isUsable gs_M_isUsable gn_M gc_M_isUsable) (by decide +kernel) ⟨by decide, by decide⟩ hK hw mwP34.1 rfl rfl hl.1 rfl (Nat.le_of_ble_eq_true rfl) dd_M_near_69 ⟨by decide, by decide⟩) hw (fun v9 P9 H locs hp hw => ?_)
              obtain ⟨rfl, e9⟩ := hp
              rw [e9] at hw
              clear e9 P9
              refine W.eq (g2 := F0 m 72 ls [.int (su_mus mv al h dd (wn h))]) rfl ?_
              refine lv_if_ne (tgt := 78) hx hb dd_M_near_72 (by decide) (fun c50 => ?_) (fun c50 => ?_)
              · skip
                refine lv_iload hx hb dd_M_near_78 (lv_at hl 3 rfl) ?_
                refine lv_if_lt (tgt := 128) hx hb dd_M_near_80 (by decide) (fun c51 => ?_) (fun c51 => absurd (by decide) c51)
                refine lv_iconst (v := 1) hx hb dd_M_near_128 (by decide) ?_
                refine lv_goto (tgt := 133) hx hb dd_M_near_129 (by decide) ?_
                refine lv_istore (lv' := [(9, .int (1 : Int32)), (8, .int (nI h)), (7, .int (nI x7)), (6, .int (nI k)), (5, .int (-1 : Int32)), (0, .ref h0), (1, .int p1), (2, .int p2), (3, .int (nI dd)), (4, .int (nI i9))]) hx hb dd_M_near_133 hl (by decide) rfl (fun ls hl => ?_)
                refine lv_iload hx hb dd_M_near_135 (lv_at hl 0 rfl) ?_
                refine lv_if_eq (tgt := 168) hx hb dd_M_near_137 (by decide) (fun c52 => absurd c52 (by decide)) (fun c52 => ?_)
                refine lv_iload hx hb dd_M_near_140 (lv_at hl 2 rfl) ?_
                refine lv_if_lt (tgt := 164) hx hb dd_M_near_142 (by decide) (fun c53 => absurd c53 (nI_pos (by omega))) (fun c53 => ?_)
                refine lv_aload_n hx hb dd_M_near_145 rfl (lv_at hl 5 rfl) ?_
                refine lv_iload_n hx hb dd_M_near_146 rfl (lv_at hl 6 rfl) ?_
                refine lv_iload_n hx hb dd_M_near_147 rfl (lv_at hl 7 rfl) ?_
                refine lv_iload hx hb dd_M_near_148 (lv_at hl 1 rfl) ?_
                refine cx_after (cx_rV (n := 3) (As := [.int p1, .int p2, .int (nI h)]) (rest := []) ⟨hx, hb, hml, hown, hg⟩ (c_M_hose l z D ac sa P34 h0 ma mv (su_gs (1 : Int32) (1 : Int32) (1 : Int32) (1 : Int32)) (nI n) al (nI t) so p1 p2 h (by omega) mwP34) (cx_gv gm_M_127 gi_M_hose gs_M_hose gn_M gc_M_hose) (by decide +kernel) ⟨by decide, by decide⟩ hK hw mwP34.1 rfl rfl hl.1 rfl (Nat.le_of_ble_eq_true rfl) dd_M_near_150 ⟨by decide, by decide⟩) hw (fun v9 P9 H locs hp hw => ?_)
                obtain ⟨rfl, e9⟩ := hp
                rw [e9] at hw
                clear e9 P9
                refine W.eq (g2 := F0 m 153 ls [.int (su_mh mv p1 p2 h)]) rfl ?_
                refine lv_aload_n hx hb dd_M_near_153 rfl (lv_at hl 5 rfl) ?_
                refine lv_iload_n hx hb dd_M_near_154 rfl (lv_at hl 6 rfl) ?_
                refine lv_iload_n hx hb dd_M_near_155 rfl (lv_at hl 7 rfl) ?_
                refine lv_iload hx hb dd_M_near_156 (lv_at hl 2 rfl) ?_
                refine cx_after (cx_rV (n := 3) (As := [.int p1, .int p2, .int (nI x7)]) (rest := [.int (su_mh mv p1 p2 h)]) ⟨hx, hb, hml, hown, hg⟩ (c_M_hose l z D ac sa P34 h0 ma mv (su_gs (1 : Int32) (1 : Int32) (1 : Int32) (1 : Int32)) (nI n) al (nI t) so p1 p2 x7 (by omega) mwP34) (cx_gv gm_M_127 gi_M_hose gs_M_hose gn_M gc_M_hose) (by decide +kernel) ⟨by decide, by decide⟩ hK hw mwP34.1 rfl rfl hl.1 rfl (Nat.le_of_ble_eq_true rfl) dd_M_near_158 ⟨by decide, by decide⟩) hw (fun v9 P9 H locs hp hw => ?_)
                obtain ⟨rfl, e9⟩ := hp
                rw [e9] at hw
                clear e9 P9
                refine W.eq (g2 := F0 m 161 ls [.int (su_mh mv p1 p2 x7), .int (su_mh mv p1 p2 h)]) rfl ?_
                refine lv_icmp_ge (tgt := 168) hx hb dd_M_near_161 (by decide) (fun c54 => ?_) (fun c54 => ?_)
                · skip
                  obtain ⟨x55, ex55⟩ : ∃ y : Int32, y = (nI h) + 1 := ⟨_, rfl⟩
                  refine lv_iinc (v := x55) (lv' := [(8, .int x55), (9, .int (1 : Int32)), (7, .int (nI x7)), (6, .int (nI k)), (5, .int (-1 : Int32)), (0, .ref h0), (1, .int p1), (2, .int p2), (3, .int (nI dd)), (4, .int (nI i9))]) hx hb dd_M_near_168 hl (k := 1) rfl (by rw [ex55]; rfl) (by decide) rfl (fun ls hl => ?_)
                  refine lv_goto (tgt := 56) hx hb dd_M_near_171 (by decide) ?_
                  have hi7 : x55 = nI (h + 1) := by rw [ex55]; exact nI_1 h
                  rw [hi7] at hl
                  exact jh (h + 1) (by omega) (nI x7) H _ ls (by simp only [su_nx, su_bh, hl5, hq7, if_neg c50, if_pos c54, if_true, Bool.false_eq_true, if_false]; rfl) hw (lv_sub (show lv_has ls 10 [(8, .int (nI (h + 1))), (9, .int (1 : Int32)), (7, .int (nI x7)), (6, .int (nI k)), (5, .int o5), (0, .ref h0), (1, .int p1), (2, .int p2), (3, .int (nI dd)), (4, .int (nI i9))] from by rw [h5] ; exact hl) [0, 2, 3, 4, 5, 6, 7, 8, 9] rfl)
                · skip
                  refine lv_iload hx hb dd_M_near_164 (lv_at hl 1 rfl) ?_
                  refine lv_istore (lv' := [(7, .int (nI h)), (9, .int (1 : Int32)), (8, .int (nI h)), (6, .int (nI k)), (5, .int (-1 : Int32)), (0, .ref h0), (1, .int p1), (2, .int p2), (3, .int (nI dd)), (4, .int (nI i9))]) hx hb dd_M_near_166 hl (by decide) rfl (fun ls hl => ?_)
                  obtain ⟨x56, ex56⟩ : ∃ y : Int32, y = (nI h) + 1 := ⟨_, rfl⟩
                  refine lv_iinc (v := x56) (lv' := [(8, .int x56), (7, .int (nI h)), (9, .int (1 : Int32)), (6, .int (nI k)), (5, .int (-1 : Int32)), (0, .ref h0), (1, .int p1), (2, .int p2), (3, .int (nI dd)), (4, .int (nI i9))]) hx hb dd_M_near_168 hl (k := 2) rfl (by rw [ex56]; rfl) (by decide) rfl (fun ls hl => ?_)
                  refine lv_goto (tgt := 56) hx hb dd_M_near_171 (by decide) ?_
                  have hi7 : x56 = nI (h + 1) := by rw [ex56]; exact nI_1 h
                  rw [hi7] at hl
                  exact jh (h + 1) (by omega) (nI h) H _ ls (by simp only [su_nx, su_bh, hl5, hq7, if_neg c50, if_neg c54, if_true, Bool.false_eq_true, if_false]; rfl) hw (lv_sub (show lv_has ls 10 [(8, .int (nI (h + 1))), (7, .int (nI h)), (9, .int (1 : Int32)), (6, .int (nI k)), (5, .int o5), (0, .ref h0), (1, .int p1), (2, .int p2), (3, .int (nI dd)), (4, .int (nI i9))] from by rw [h5] ; exact hl) [0, 1, 3, 4, 5, 6, 7, 8, 9] rfl)
              · skip
                refine lv_goto (tgt := 168) hx hb dd_M_near_75 (by decide) ?_
                obtain ⟨x57, ex57⟩ : ∃ y : Int32, y = (nI h) + 1 := ⟨_, rfl⟩
                refine lv_iinc (v := x57) (lv' := [(8, .int x57), (7, .int (nI x7)), (6, .int (nI k)), (5, .int (-1 : Int32)), (0, .ref h0), (1, .int p1), (2, .int p2), (3, .int (nI dd)), (4, .int (nI i9))]) hx hb dd_M_near_168 hl (k := 0) rfl (by rw [ex57]; rfl) (by decide) rfl (fun ls hl => ?_)
                refine lv_goto (tgt := 56) hx hb dd_M_near_171 (by decide) ?_
                have hi7 : x57 = nI (h + 1) := by rw [ex57]; exact nI_1 h
                rw [hi7] at hl
                exact jh (h + 1) (by omega) (nI x7) H _ ls (by simp only [su_nx, su_bh, hl5, hq7, if_pos c50, if_true, Bool.false_eq_true, if_false]; rfl) hw (lv_sub (show lv_has ls 10 [(8, .int (nI (h + 1))), (7, .int (nI x7)), (6, .int (nI k)), (5, .int o5), (0, .ref h0), (1, .int p1), (2, .int p2), (3, .int (nI dd)), (4, .int (nI i9))] from by rw [h5] ; exact hl) [0, 1, 2, 3, 4, 5, 6, 7, 8] rfl)
          · skip
            rcases hq7 : (su_nx (fun j => su_mus mv al j dd (wn j)) (fun j => su_mh mv p1 p2 j) (su_pk (fun j => su_mus mv al j dd (wn j)) (fun j => su_mh mv p1 p2 j) n k) h) with _ | x7
            · skip
              have h5 : o5 = nI l5 := by rw [e5, hl5]; rfl
              have hl5n : l5 < n := su_pk_lt hl5
              have h7 : o7 = -1 := by rw [e7, hq7]; rfl
              rw [h5, h7] at hl
              rw [hl5] at hq7
              refine lv_iload hx hb dd_M_near_56 (lv_at hl 0 rfl) ?_
              refine lv_aload_n hx hb dd_M_near_58 rfl (lv_at hl 4 rfl) ?_
              refine pm_get (ci := 6) (C := cn_M) (T := cf_M) (N := 23) (v := .int (nI n)) hx hb hg gu_M hown hK.2.1 hw mwP34.1 rfl 1 (by decide) (hg _ gf_M_69) (fun _ h9 => h9) rfl dd_M_near_59 ?_
              refine lv_icmp_ge (tgt := 174) hx hb dd_M_near_62 (by decide) (fun c58 => absurd c58 (nI_ge hhn (by omega))) (fun c58 => ?_)
              refine lv_aload_n hx hb dd_M_near_65 rfl (lv_at hl 4 rfl) ?_
              refine lv_iload hx hb dd_M_near_66 (lv_at hl 0 rfl) ?_
              refine lv_iload_n hx hb dd_M_near_68 rfl (lv_at hl 7 rfl) ?_
              refine cx_after (cx_rV (n := 2) (As := [.int (nI h), .int (nI dd)]) (rest := []) ⟨hx, hb, hml, hown, hg⟩ (c_M_isUsable l z D ac sa P34 h0 ma mv (su_gs (1 : Int32) (1 : Int32) (1 : Int32) (1 : Int32)) al so n t hn40 ht100 h (by omega) dd hdd (wn h) (hwn h (by omega)).1 (hwn h (by omega)).2 mwP34) (cx_gv gm_M_121 gi_M_isUsable gs_M_isUsable gn_M gc_M_isUsable) (by decide +kernel) ⟨by decide, by decide⟩ hK hw mwP34.1 rfl rfl hl.1 rfl (Nat.le_of_ble_eq_true rfl) dd_M_near_69 ⟨by decide, by decide⟩) hw (fun v9 P9 H locs hp hw => ?_)
              obtain ⟨rfl, e9⟩ := hp
              rw [e9] at hw
              clear e9 P9
              refine W.eq (g2 := F0 m 72 ls [.int (su_mus mv al h dd (wn h))]) rfl ?_
              refine lv_if_ne (tgt := 78) hx hb dd_M_near_72 (by decide) (fun c59 => ?_) (fun c59 => ?_)
              · skip
                refine lv_iload hx hb dd_M_near_78 (lv_at hl 3 rfl) ?_
                refine lv_if_lt (tgt := 128) hx hb dd_M_near_80 (by decide) (fun c60 => absurd c60 (nI_pos (by omega))) (fun c60 => ?_)
                refine lv_aload_n hx hb dd_M_near_83 rfl (lv_at hl 4 rfl) ?_
                refine lv_iload_n hx hb dd_M_near_84 rfl (lv_at hl 5 rfl) ?_
                refine lv_iload_n hx hb dd_M_near_85 rfl (lv_at hl 6 rfl) ?_
                refine lv_iload hx hb dd_M_near_86 (lv_at hl 0 rfl) ?_
                refine cx_after (cx_rV (n := 3) (As := [.int p1, .int p2, .int (nI h)]) (rest := []) ⟨hx, hb, hml, hown, hg⟩ (c_M_hose l z D ac sa P34 h0 ma mv (su_gs (1 : Int32) (1 : Int32) (1 : Int32) (1 : Int32)) (nI n) al (nI t) so p1 p2 h (by omega) mwP34) (cx_gv gm_M_127 gi_M_hose gs_M_hose gn_M gc_M_hose) (by decide +kernel) ⟨by decide, by decide⟩ hK hw mwP34.1 rfl rfl hl.1 rfl (Nat.le_of_ble_eq_true rfl) dd_M_near_88 ⟨by decide, by decide⟩) hw (fun v9 P9 H locs hp hw => ?_)
                obtain ⟨rfl, e9⟩ := hp
                rw [e9] at hw
                clear e9 P9
                refine W.eq (g2 := F0 m 91 ls [.int (su_mh mv p1 p2 h)]) rfl ?_
                refine lv_aload_n hx hb dd_M_near_91 rfl (lv_at hl 4 rfl) ?_
                refine lv_iload_n hx hb dd_M_near_92 rfl (lv_at hl 5 rfl) ?_
                refine lv_iload_n hx hb dd_M_near_93 rfl (lv_at hl 6 rfl) ?_
                refine lv_iload hx hb dd_M_near_94 (lv_at hl 3 rfl) ?_
                refine cx_after (cx_rV (n := 3) (As := [.int p1, .int p2, .int (nI l5)]) (rest := [.int (su_mh mv p1 p2 h)]) ⟨hx, hb, hml, hown, hg⟩ (c_M_hose l z D ac sa P34 h0 ma mv (su_gs (1 : Int32) (1 : Int32) (1 : Int32) (1 : Int32)) (nI n) al (nI t) so p1 p2 l5 (by omega) mwP34) (cx_gv gm_M_127 gi_M_hose gs_M_hose gn_M gc_M_hose) (by decide +kernel) ⟨by decide, by decide⟩ hK hw mwP34.1 rfl rfl hl.1 rfl (Nat.le_of_ble_eq_true rfl) dd_M_near_96 ⟨by decide, by decide⟩) hw (fun v9 P9 H locs hp hw => ?_)
                obtain ⟨rfl, e9⟩ := hp
                rw [e9] at hw
                clear e9 P9
                refine W.eq (g2 := F0 m 99 ls [.int (su_mh mv p1 p2 l5), .int (su_mh mv p1 p2 h)]) rfl ?_
                refine lv_icmp_gt (tgt := 128) hx hb dd_M_near_99 (by decide) (fun c61 => ?_) (fun c61 => ?_)
                · skip
                  refine lv_iconst (v := 1) hx hb dd_M_near_128 (by decide) ?_
                  refine lv_goto (tgt := 133) hx hb dd_M_near_129 (by decide) ?_
                  refine lv_istore (lv' := [(9, .int (1 : Int32)), (8, .int (nI h)), (7, .int (-1 : Int32)), (6, .int (nI k)), (5, .int (nI l5)), (0, .ref h0), (1, .int p1), (2, .int p2), (3, .int (nI dd)), (4, .int (nI i9))]) hx hb dd_M_near_133 hl (by decide) rfl (fun ls hl => ?_)
                  refine lv_iload hx hb dd_M_near_135 (lv_at hl 0 rfl) ?_
                  refine lv_if_eq (tgt := 168) hx hb dd_M_near_137 (by decide) (fun c62 => absurd c62 (by decide)) (fun c62 => ?_)
                  refine lv_iload hx hb dd_M_near_140 (lv_at hl 2 rfl) ?_
                  refine lv_if_lt (tgt := 164) hx hb dd_M_near_142 (by decide) (fun c63 => ?_) (fun c63 => absurd (by decide) c63)
                  refine lv_iload hx hb dd_M_near_164 (lv_at hl 1 rfl) ?_
                  refine lv_istore (lv' := [(7, .int (nI h)), (9, .int (1 : Int32)), (8, .int (nI h)), (6, .int (nI k)), (5, .int (nI l5)), (0, .ref h0), (1, .int p1), (2, .int p2), (3, .int (nI dd)), (4, .int (nI i9))]) hx hb dd_M_near_166 hl (by decide) rfl (fun ls hl => ?_)
                  obtain ⟨x64, ex64⟩ : ∃ y : Int32, y = (nI h) + 1 := ⟨_, rfl⟩
                  refine lv_iinc (v := x64) (lv' := [(8, .int x64), (7, .int (nI h)), (9, .int (1 : Int32)), (6, .int (nI k)), (5, .int (nI l5)), (0, .ref h0), (1, .int p1), (2, .int p2), (3, .int (nI dd)), (4, .int (nI i9))]) hx hb dd_M_near_168 hl (k := 2) rfl (by rw [ex64]; rfl) (by decide) rfl (fun ls hl => ?_)
                  refine lv_goto (tgt := 56) hx hb dd_M_near_171 (by decide) ?_
                  have hi7 : x64 = nI (h + 1) := by rw [ex64]; exact nI_1 h
                  rw [hi7] at hl
                  rw [← h5] at hl
                  exact jh (h + 1) (by omega) (nI h) H _ ls (by simp only [su_nx, su_bh, hl5, hq7, if_neg c59, if_pos c61, if_true, Bool.false_eq_true, if_false]; rfl) hw (lv_sub hl [0, 1, 3, 4, 5, 6, 7, 8, 9] rfl)
                · skip
                  refine lv_aload_n hx hb dd_M_near_102 rfl (lv_at hl 4 rfl) ?_
                  refine lv_iload_n hx hb dd_M_near_103 rfl (lv_at hl 5 rfl) ?_
                  refine lv_iload_n hx hb dd_M_near_104 rfl (lv_at hl 6 rfl) ?_
                  refine lv_iload hx hb dd_M_near_105 (lv_at hl 0 rfl) ?_
                  refine cx_after (cx_rV (n := 3) (As := [.int p1, .int p2, .int (nI h)]) (rest := []) ⟨hx, hb, hml, hown, hg⟩ (c_M_hose l z D ac sa P34 h0 ma mv (su_gs (1 : Int32) (1 : Int32) (1 : Int32) (1 : Int32)) (nI n) al (nI t) so p1 p2 h (by omega) mwP34) (cx_gv gm_M_127 gi_M_hose gs_M_hose gn_M gc_M_hose) (by decide +kernel) ⟨by decide, by decide⟩ hK hw mwP34.1 rfl rfl hl.1 rfl (Nat.le_of_ble_eq_true rfl) dd_M_near_107 ⟨by decide, by decide⟩) hw (fun v9 P9 H locs hp hw => ?_)
                  obtain ⟨rfl, e9⟩ := hp
                  rw [e9] at hw
                  clear e9 P9
                  refine W.eq (g2 := F0 m 110 ls [.int (su_mh mv p1 p2 h)]) rfl ?_
                  refine lv_aload_n hx hb dd_M_near_110 rfl (lv_at hl 4 rfl) ?_
                  refine lv_iload_n hx hb dd_M_near_111 rfl (lv_at hl 5 rfl) ?_
                  refine lv_iload_n hx hb dd_M_near_112 rfl (lv_at hl 6 rfl) ?_
                  refine lv_iload hx hb dd_M_near_113 (lv_at hl 3 rfl) ?_
                  refine cx_after (cx_rV (n := 3) (As := [.int p1, .int p2, .int (nI l5)]) (rest := [.int (su_mh mv p1 p2 h)]) ⟨hx, hb, hml, hown, hg⟩ (c_M_hose l z D ac sa P34 h0 ma mv (su_gs (1 : Int32) (1 : Int32) (1 : Int32) (1 : Int32)) (nI n) al (nI t) so p1 p2 l5 (by omega) mwP34) (cx_gv gm_M_127 gi_M_hose gs_M_hose gn_M gc_M_hose) (by decide +kernel) ⟨by decide, by decide⟩ hK hw mwP34.1 rfl rfl hl.1 rfl (Nat.le_of_ble_eq_true rfl) dd_M_near_115 ⟨by decide, by decide⟩) hw (fun v9 P9 H locs hp hw => ?_)
                  obtain ⟨rfl, e9⟩ := hp
                  rw [e9] at hw
                  clear e9 P9
                  refine W.eq (g2 := F0 m 118 ls [.int (su_mh mv p1 p2 l5), .int (su_mh mv p1 p2 h)]) rfl ?_
                  refine lv_icmp_ne (tgt := 132) hx hb dd_M_near_118 (by decide) (fun c65 => ?_) (fun c65 => ?_)
                  · skip
                    refine lv_iconst (v := 0) hx hb dd_M_near_132 (by decide) ?_
                    refine lv_istore (lv' := [(9, .int (0 : Int32)), (8, .int (nI h)), (7, .int (-1 : Int32)), (6, .int (nI k)), (5, .int (nI l5)), (0, .ref h0), (1, .int p1), (2, .int p2), (3, .int (nI dd)), (4, .int (nI i9))]) hx hb dd_M_near_133 hl (by decide) rfl (fun ls hl => ?_)
                    refine lv_iload hx hb dd_M_near_135 (lv_at hl 0 rfl) ?_
                    refine lv_if_eq (tgt := 168) hx hb dd_M_near_137 (by decide) (fun c66 => ?_) (fun c66 => absurd (by decide) c66)
                    obtain ⟨x67, ex67⟩ : ∃ y : Int32, y = (nI h) + 1 := ⟨_, rfl⟩
                    refine lv_iinc (v := x67) (lv' := [(8, .int x67), (9, .int (0 : Int32)), (7, .int (-1 : Int32)), (6, .int (nI k)), (5, .int (nI l5)), (0, .ref h0), (1, .int p1), (2, .int p2), (3, .int (nI dd)), (4, .int (nI i9))]) hx hb dd_M_near_168 hl (k := 1) rfl (by rw [ex67]; rfl) (by decide) rfl (fun ls hl => ?_)
                    refine lv_goto (tgt := 56) hx hb dd_M_near_171 (by decide) ?_
                    have hi7 : x67 = nI (h + 1) := by rw [ex67]; exact nI_1 h
                    rw [hi7] at hl
                    rw [← h5] at hl
                    exact jh (h + 1) (by omega) (-1 : Int32) H _ ls (by simp only [su_nx, su_bh, hl5, hq7, if_neg c59, if_neg c61, if_neg c65, if_true, Bool.false_eq_true, if_false]; rfl) hw (lv_sub hl [0, 2, 3, 4, 5, 6, 7, 8, 9] rfl)
                  · skip
                    refine lv_iload hx hb dd_M_near_121 (lv_at hl 0 rfl) ?_
                    refine lv_iload hx hb dd_M_near_123 (lv_at hl 3 rfl) ?_
                    refine lv_icmp_le (tgt := 132) hx hb dd_M_near_125 (by decide) (fun c68 => ?_) (fun c68 => ?_)
                    · skip
                      refine lv_iconst (v := 0) hx hb dd_M_near_132 (by decide) ?_
                      refine lv_istore (lv' := [(9, .int (0 : Int32)), (8, .int (nI h)), (7, .int (-1 : Int32)), (6, .int (nI k)), (5, .int (nI l5)), (0, .ref h0), (1, .int p1), (2, .int p2), (3, .int (nI dd)), (4, .int (nI i9))]) hx hb dd_M_near_133 hl (by decide) rfl (fun ls hl => ?_)
                      refine lv_iload hx hb dd_M_near_135 (lv_at hl 0 rfl) ?_
                      refine lv_if_eq (tgt := 168) hx hb dd_M_near_137 (by decide) (fun c69 => ?_) (fun c69 => absurd (by decide) c69)
                      obtain ⟨x70, ex70⟩ : ∃ y : Int32, y = (nI h) + 1 := ⟨_, rfl⟩
                      refine lv_iinc (v := x70) (lv' := [(8, .int x70), (9, .int (0 : Int32)), (7, .int (-1 : Int32)), (6, .int (nI k)), (5, .int (nI l5)), (0, .ref h0), (1, .int p1), (2, .int p2), (3, .int (nI dd)), (4, .int (nI i9))]) hx hb dd_M_near_168 hl (k := 1) rfl (by rw [ex70]; rfl) (by decide) rfl (fun ls hl => ?_)
                      refine lv_goto (tgt := 56) hx hb dd_M_near_171 (by decide) ?_
                      have hi7 : x70 = nI (h + 1) := by rw [ex70]; exact nI_1 h
                      rw [hi7] at hl
                      rw [← h5] at hl
                      rw [nI_leI (by omega) (by omega)] at c68
                      exact jh (h + 1) (by omega) (-1 : Int32) H _ ls (by simp only [su_nx, su_bh, hl5, hq7, if_neg c59, if_neg c61, if_pos c65, if_pos c68, if_true, Bool.false_eq_true, if_false]; rfl) hw (lv_sub hl [0, 2, 3, 4, 5, 6, 7, 8, 9] rfl)
                    · skip
                      refine lv_iconst (v := 1) hx hb dd_M_near_128 (by decide) ?_
                      refine lv_goto (tgt := 133) hx hb dd_M_near_129 (by decide) ?_
                      refine lv_istore (lv' := [(9, .int (1 : Int32)), (8, .int (nI h)), (7, .int (-1 : Int32)), (6, .int (nI k)), (5, .int (nI l5)), (0, .ref h0), (1, .int p1), (2, .int p2), (3, .int (nI dd)), (4, .int (nI i9))]) hx hb dd_M_near_133 hl (by decide) rfl (fun ls hl => ?_)
                      refine lv_iload hx hb dd_M_near_135 (lv_at hl 0 rfl) ?_
                      refine lv_if_eq (tgt := 168) hx hb dd_M_near_137 (by decide) (fun c71 => absurd c71 (by decide)) (fun c71 => ?_)
                      refine lv_iload hx hb dd_M_near_140 (lv_at hl 2 rfl) ?_
                      refine lv_if_lt (tgt := 164) hx hb dd_M_near_142 (by decide) (fun c72 => ?_) (fun c72 => absurd (by decide) c72)
                      refine lv_iload hx hb dd_M_near_164 (lv_at hl 1 rfl) ?_
                      refine lv_istore (lv' := [(7, .int (nI h)), (9, .int (1 : Int32)), (8, .int (nI h)), (6, .int (nI k)), (5, .int (nI l5)), (0, .ref h0), (1, .int p1), (2, .int p2), (3, .int (nI dd)), (4, .int (nI i9))]) hx hb dd_M_near_166 hl (by decide) rfl (fun ls hl => ?_)
                      obtain ⟨x73, ex73⟩ : ∃ y : Int32, y = (nI h) + 1 := ⟨_, rfl⟩
                      refine lv_iinc (v := x73) (lv' := [(8, .int x73), (7, .int (nI h)), (9, .int (1 : Int32)), (6, .int (nI k)), (5, .int (nI l5)), (0, .ref h0), (1, .int p1), (2, .int p2), (3, .int (nI dd)), (4, .int (nI i9))]) hx hb dd_M_near_168 hl (k := 2) rfl (by rw [ex73]; rfl) (by decide) rfl (fun ls hl => ?_)
                      refine lv_goto (tgt := 56) hx hb dd_M_near_171 (by decide) ?_
                      have hi7 : x73 = nI (h + 1) := by rw [ex73]; exact nI_1 h
                      rw [hi7] at hl
                      rw [← h5] at hl
                      rw [nI_leI (by omega) (by omega)] at c68
                      exact jh (h + 1) (by omega) (nI h) H _ ls (by simp only [su_nx, su_bh, hl5, hq7, if_neg c59, if_neg c61, if_pos c65, if_neg c68, if_true, Bool.false_eq_true, if_false]; rfl) hw (lv_sub hl [0, 1, 3, 4, 5, 6, 7, 8, 9] rfl)
              · skip
                refine lv_goto (tgt := 168) hx hb dd_M_near_75 (by decide) ?_
                obtain ⟨x74, ex74⟩ : ∃ y : Int32, y = (nI h) + 1 := ⟨_, rfl⟩
                refine lv_iinc (v := x74) (lv' := [(8, .int x74), (7, .int (-1 : Int32)), (6, .int (nI k)), (5, .int (nI l5)), (0, .ref h0), (1, .int p1), (2, .int p2), (3, .int (nI dd)), (4, .int (nI i9))]) hx hb dd_M_near_168 hl (k := 0) rfl (by rw [ex74]; rfl) (by decide) rfl (fun ls hl => ?_)
                refine lv_goto (tgt := 56) hx hb dd_M_near_171 (by decide) ?_
                have hi7 : x74 = nI (h + 1) := by rw [ex74]; exact nI_1 h
                rw [hi7] at hl
                rw [← h5] at hl
                exact jh (h + 1) (by omega) (-1 : Int32) H _ ls (by simp only [su_nx, su_bh, hl5, hq7, if_pos c59, if_true, Bool.false_eq_true, if_false]; rfl) hw (lv_sub hl [0, 1, 2, 3, 4, 5, 6, 7, 8] rfl)
            · skip
              have h5 : o5 = nI l5 := by rw [e5, hl5]; rfl
              have hl5n : l5 < n := su_pk_lt hl5
              have h7 : o7 = nI x7 := by rw [e7, hq7]; rfl
              have hx7 : x7 < h := su_nx_lt hq7
              rw [h5, h7] at hl
              rw [hl5] at hq7
              refine lv_iload hx hb dd_M_near_56 (lv_at hl 0 rfl) ?_
              refine lv_aload_n hx hb dd_M_near_58 rfl (lv_at hl 4 rfl) ?_
              refine pm_get (ci := 6) (C := cn_M) (T := cf_M) (N := 23) (v := .int (nI n)) hx hb hg gu_M hown hK.2.1 hw mwP34.1 rfl 1 (by decide) (hg _ gf_M_69) (fun _ h9 => h9) rfl dd_M_near_59 ?_
              refine lv_icmp_ge (tgt := 174) hx hb dd_M_near_62 (by decide) (fun c75 => absurd c75 (nI_ge hhn (by omega))) (fun c75 => ?_)
              refine lv_aload_n hx hb dd_M_near_65 rfl (lv_at hl 4 rfl) ?_
              refine lv_iload hx hb dd_M_near_66 (lv_at hl 0 rfl) ?_
              refine lv_iload_n hx hb dd_M_near_68 rfl (lv_at hl 7 rfl) ?_
              refine cx_after (cx_rV (n := 2) (As := [.int (nI h), .int (nI dd)]) (rest := []) ⟨hx, hb, hml, hown, hg⟩ (c_M_isUsable l z D ac sa P34 h0 ma mv (su_gs (1 : Int32) (1 : Int32) (1 : Int32) (1 : Int32)) al so n t hn40 ht100 h (by omega) dd hdd (wn h) (hwn h (by omega)).1 (hwn h (by omega)).2 mwP34) (cx_gv gm_M_121 gi_M_isUsable gs_M_isUsable gn_M gc_M_isUsable) (by decide +kernel) ⟨by decide, by decide⟩ hK hw mwP34.1 rfl rfl hl.1 rfl (Nat.le_of_ble_eq_true rfl) dd_M_near_69 ⟨by decide, by decide⟩) hw (fun v9 P9 H locs hp hw => ?_)
              obtain ⟨rfl, e9⟩ := hp
              rw [e9] at hw
              clear e9 P9
              refine W.eq (g2 := F0 m 72 ls [.int (su_mus mv al h dd (wn h))]) rfl ?_
              refine lv_if_ne (tgt := 78) hx hb dd_M_near_72 (by decide) (fun c76 => ?_) (fun c76 => ?_)
              · skip
                refine lv_iload hx hb dd_M_near_78 (lv_at hl 3 rfl) ?_
                refine lv_if_lt (tgt := 128) hx hb dd_M_near_80 (by decide) (fun c77 => absurd c77 (nI_pos (by omega))) (fun c77 => ?_)
                refine lv_aload_n hx hb dd_M_near_83 rfl (lv_at hl 4 rfl) ?_
                refine lv_iload_n hx hb dd_M_near_84 rfl (lv_at hl 5 rfl) ?_
                refine lv_iload_n hx hb dd_M_near_85 rfl (lv_at hl 6 rfl) ?_
                refine lv_iload hx hb dd_M_near_86 (lv_at hl 0 rfl) ?_
                refine cx_after (cx_rV (n := 3) (As := [.int p1, .int p2, .int (nI h)]) (rest := []) ⟨hx, hb, hml, hown, hg⟩ (c_M_hose l z D ac sa P34 h0 ma mv (su_gs (1 : Int32) (1 : Int32) (1 : Int32) (1 : Int32)) (nI n) al (nI t) so p1 p2 h (by omega) mwP34) (cx_gv gm_M_127 gi_M_hose gs_M_hose gn_M gc_M_hose) (by decide +kernel) ⟨by decide, by decide⟩ hK hw mwP34.1 rfl rfl hl.1 rfl (Nat.le_of_ble_eq_true rfl) dd_M_near_88 ⟨by decide, by decide⟩) hw (fun v9 P9 H locs hp hw => ?_)
                obtain ⟨rfl, e9⟩ := hp
                rw [e9] at hw
                clear e9 P9
                refine W.eq (g2 := F0 m 91 ls [.int (su_mh mv p1 p2 h)]) rfl ?_
                refine lv_aload_n hx hb dd_M_near_91 rfl (lv_at hl 4 rfl) ?_
                refine lv_iload_n hx hb dd_M_near_92 rfl (lv_at hl 5 rfl) ?_
                refine lv_iload_n hx hb dd_M_near_93 rfl (lv_at hl 6 rfl) ?_
                refine lv_iload hx hb dd_M_near_94 (lv_at hl 3 rfl) ?_
                refine cx_after (cx_rV (n := 3) (As := [.int p1, .int p2, .int (nI l5)]) (rest := [.int (su_mh mv p1 p2 h)]) ⟨hx, hb, hml, hown, hg⟩ (c_M_hose l z D ac sa P34 h0 ma mv (su_gs (1 : Int32) (1 : Int32) (1 : Int32) (1 : Int32)) (nI n) al (nI t) so p1 p2 l5 (by omega) mwP34) (cx_gv gm_M_127 gi_M_hose gs_M_hose gn_M gc_M_hose) (by decide +kernel) ⟨by decide, by decide⟩ hK hw mwP34.1 rfl rfl hl.1 rfl (Nat.le_of_ble_eq_true rfl) dd_M_near_96 ⟨by decide, by decide⟩) hw (fun v9 P9 H locs hp hw => ?_)
                obtain ⟨rfl, e9⟩ := hp
                rw [e9] at hw
                clear e9 P9
                refine W.eq (g2 := F0 m 99 ls [.int (su_mh mv p1 p2 l5), .int (su_mh mv p1 p2 h)]) rfl ?_
                refine lv_icmp_gt (tgt := 128) hx hb dd_M_near_99 (by decide) (fun c78 => ?_) (fun c78 => ?_)
                · skip
                  refine lv_iconst (v := 1) hx hb dd_M_near_128 (by decide) ?_
                  refine lv_goto (tgt := 133) hx hb dd_M_near_129 (by decide) ?_
                  refine lv_istore (lv' := [(9, .int (1 : Int32)), (8, .int (nI h)), (7, .int (nI x7)), (6, .int (nI k)), (5, .int (nI l5)), (0, .ref h0), (1, .int p1), (2, .int p2), (3, .int (nI dd)), (4, .int (nI i9))]) hx hb dd_M_near_133 hl (by decide) rfl (fun ls hl => ?_)
                  refine lv_iload hx hb dd_M_near_135 (lv_at hl 0 rfl) ?_
                  refine lv_if_eq (tgt := 168) hx hb dd_M_near_137 (by decide) (fun c79 => absurd c79 (by decide)) (fun c79 => ?_)
                  refine lv_iload hx hb dd_M_near_140 (lv_at hl 2 rfl) ?_
                  refine lv_if_lt (tgt := 164) hx hb dd_M_near_142 (by decide) (fun c80 => absurd c80 (nI_pos (by omega))) (fun c80 => ?_)
                  refine lv_aload_n hx hb dd_M_near_145 rfl (lv_at hl 5 rfl) ?_
                  refine lv_iload_n hx hb dd_M_near_146 rfl (lv_at hl 6 rfl) ?_
                  refine lv_iload_n hx hb dd_M_near_147 rfl (lv_at hl 7 rfl) ?_
                  refine lv_iload hx hb dd_M_near_148 (lv_at hl 1 rfl) ?_
                  refine cx_after (cx_rV (n := 3) (As := [.int p1, .int p2, .int (nI h)]) (rest := []) ⟨hx, hb, hml, hown, hg⟩ (c_M_hose l z D ac sa P34 h0 ma mv (su_gs (1 : Int32) (1 : Int32) (1 : Int32) (1 : Int32)) (nI n) al (nI t) so p1 p2 h (by omega) mwP34) (cx_gv gm_M_127 gi_M_hose gs_M_hose gn_M gc_M_hose) (by decide +kernel) ⟨by decide, by decide⟩ hK hw mwP34.1 rfl rfl hl.1 rfl (Nat.le_of_ble_eq_true rfl) dd_M_near_150 ⟨by decide, by decide⟩) hw (fun v9 P9 H locs hp hw => ?_)
                  obtain ⟨rfl, e9⟩ := hp
                  rw [e9] at hw
                  clear e9 P9
                  refine W.eq (g2 := F0 m 153 ls [.int (su_mh mv p1 p2 h)]) rfl ?_
                  refine lv_aload_n hx hb dd_M_near_153 rfl (lv_at hl 5 rfl) ?_
                  refine lv_iload_n hx hb dd_M_near_154 rfl (lv_at hl 6 rfl) ?_
                  refine lv_iload_n hx hb dd_M_near_155 rfl (lv_at hl 7 rfl) ?_
                  refine lv_iload hx hb dd_M_near_156 (lv_at hl 2 rfl) ?_
                  refine cx_after (cx_rV (n := 3) (As := [.int p1, .int p2, .int (nI x7)]) (rest := [.int (su_mh mv p1 p2 h)]) ⟨hx, hb, hml, hown, hg⟩ (c_M_hose l z D ac sa P34 h0 ma mv (su_gs (1 : Int32) (1 : Int32) (1 : Int32) (1 : Int32)) (nI n) al (nI t) so p1 p2 x7 (by omega) mwP34) (cx_gv gm_M_127 gi_M_hose gs_M_hose gn_M gc_M_hose) (by decide +kernel) ⟨by decide, by decide⟩ hK hw mwP34.1 rfl rfl hl.1 rfl (Nat.le_of_ble_eq_true rfl) dd_M_near_158 ⟨by decide, by decide⟩) hw (fun v9 P9 H locs hp hw => ?_)
                  obtain ⟨rfl, e9⟩ := hp
                  rw [e9] at hw
                  clear e9 P9
                  refine W.eq (g2 := F0 m 161 ls [.int (su_mh mv p1 p2 x7), .int (su_mh mv p1 p2 h)]) rfl ?_
                  refine lv_icmp_ge (tgt := 168) hx hb dd_M_near_161 (by decide) (fun c81 => ?_) (fun c81 => ?_)
                  · skip
                    obtain ⟨x82, ex82⟩ : ∃ y : Int32, y = (nI h) + 1 := ⟨_, rfl⟩
                    refine lv_iinc (v := x82) (lv' := [(8, .int x82), (9, .int (1 : Int32)), (7, .int (nI x7)), (6, .int (nI k)), (5, .int (nI l5)), (0, .ref h0), (1, .int p1), (2, .int p2), (3, .int (nI dd)), (4, .int (nI i9))]) hx hb dd_M_near_168 hl (k := 1) rfl (by rw [ex82]; rfl) (by decide) rfl (fun ls hl => ?_)
                    refine lv_goto (tgt := 56) hx hb dd_M_near_171 (by decide) ?_
                    have hi7 : x82 = nI (h + 1) := by rw [ex82]; exact nI_1 h
                    rw [hi7] at hl
                    rw [← h5] at hl
                    exact jh (h + 1) (by omega) (nI x7) H _ ls (by simp only [su_nx, su_bh, hl5, hq7, if_neg c76, if_pos c78, if_pos c81, if_true, Bool.false_eq_true, if_false]; rfl) hw (lv_sub hl [0, 2, 3, 4, 5, 6, 7, 8, 9] rfl)
                  · skip
                    refine lv_iload hx hb dd_M_near_164 (lv_at hl 1 rfl) ?_
                    refine lv_istore (lv' := [(7, .int (nI h)), (9, .int (1 : Int32)), (8, .int (nI h)), (6, .int (nI k)), (5, .int (nI l5)), (0, .ref h0), (1, .int p1), (2, .int p2), (3, .int (nI dd)), (4, .int (nI i9))]) hx hb dd_M_near_166 hl (by decide) rfl (fun ls hl => ?_)
                    obtain ⟨x83, ex83⟩ : ∃ y : Int32, y = (nI h) + 1 := ⟨_, rfl⟩
                    refine lv_iinc (v := x83) (lv' := [(8, .int x83), (7, .int (nI h)), (9, .int (1 : Int32)), (6, .int (nI k)), (5, .int (nI l5)), (0, .ref h0), (1, .int p1), (2, .int p2), (3, .int (nI dd)), (4, .int (nI i9))]) hx hb dd_M_near_168 hl (k := 2) rfl (by rw [ex83]; rfl) (by decide) rfl (fun ls hl => ?_)
                    refine lv_goto (tgt := 56) hx hb dd_M_near_171 (by decide) ?_
                    have hi7 : x83 = nI (h + 1) := by rw [ex83]; exact nI_1 h
                    rw [hi7] at hl
                    rw [← h5] at hl
                    exact jh (h + 1) (by omega) (nI h) H _ ls (by simp only [su_nx, su_bh, hl5, hq7, if_neg c76, if_pos c78, if_neg c81, if_true, Bool.false_eq_true, if_false]; rfl) hw (lv_sub hl [0, 1, 3, 4, 5, 6, 7, 8, 9] rfl)
                · skip
                  refine lv_aload_n hx hb dd_M_near_102 rfl (lv_at hl 4 rfl) ?_
                  refine lv_iload_n hx hb dd_M_near_103 rfl (lv_at hl 5 rfl) ?_
                  refine lv_iload_n hx hb dd_M_near_104 rfl (lv_at hl 6 rfl) ?_
                  refine lv_iload hx hb dd_M_near_105 (lv_at hl 0 rfl) ?_
                  refine cx_after (cx_rV (n := 3) (As := [.int p1, .int p2, .int (nI h)]) (rest := []) ⟨hx, hb, hml, hown, hg⟩ (c_M_hose l z D ac sa P34 h0 ma mv (su_gs (1 : Int32) (1 : Int32) (1 : Int32) (1 : Int32)) (nI n) al (nI t) so p1 p2 h (by omega) mwP34) (cx_gv gm_M_127 gi_M_hose gs_M_hose gn_M gc_M_hose) (by decide +kernel) ⟨by decide, by decide⟩ hK hw mwP34.1 rfl rfl hl.1 rfl (Nat.le_of_ble_eq_true rfl) dd_M_near_107 ⟨by decide, by decide⟩) hw (fun v9 P9 H locs hp hw => ?_)
                  obtain ⟨rfl, e9⟩ := hp
                  rw [e9] at hw
                  clear e9 P9
                  refine W.eq (g2 := F0 m 110 ls [.int (su_mh mv p1 p2 h)]) rfl ?_
                  refine lv_aload_n hx hb dd_M_near_110 rfl (lv_at hl 4 rfl) ?_
                  refine lv_iload_n hx hb dd_M_near_111 rfl (lv_at hl 5 rfl) ?_
                  refine lv_iload_n hx hb dd_M_near_112 rfl (lv_at hl 6 rfl) ?_
                  refine lv_iload hx hb dd_M_near_113 (lv_at hl 3 rfl) ?_
                  refine cx_after (cx_rV (n := 3) (As := [.int p1, .int p2, .int (nI l5)]) (rest := [.int (su_mh mv p1 p2 h)]) ⟨hx, hb, hml, hown, hg⟩ (c_M_hose l z D ac sa P34 h0 ma mv (su_gs (1 : Int32) (1 : Int32) (1 : Int32) (1 : Int32)) (nI n) al (nI t) so p1 p2 l5 (by omega) mwP34) (cx_gv gm_M_127 gi_M_hose gs_M_hose gn_M gc_M_hose) (by decide +kernel) ⟨by decide, by decide⟩ hK hw mwP34.1 rfl rfl hl.1 rfl (Nat.le_of_ble_eq_true rfl) dd_M_near_115 ⟨by decide, by decide⟩) hw (fun v9 P9 H locs hp hw => ?_)
                  obtain ⟨rfl, e9⟩ := hp
                  rw [e9] at hw
                  clear e9 P9
                  refine W.eq (g2 := F0 m 118 ls [.int (su_mh mv p1 p2 l5), .int (su_mh mv p1 p2 h)]) rfl ?_
                  refine lv_icmp_ne (tgt := 132) hx hb dd_M_near_118 (by decide) (fun c84 => ?_) (fun c84 => ?_)
                  · skip
                    refine lv_iconst (v := 0) hx hb dd_M_near_132 (by decide) ?_
                    refine lv_istore (lv' := [(9, .int (0 : Int32)), (8, .int (nI h)), (7, .int (nI x7)), (6, .int (nI k)), (5, .int (nI l5)), (0, .ref h0), (1, .int p1), (2, .int p2), (3, .int (nI dd)), (4, .int (nI i9))]) hx hb dd_M_near_133 hl (by decide) rfl (fun ls hl => ?_)
                    refine lv_iload hx hb dd_M_near_135 (lv_at hl 0 rfl) ?_
                    refine lv_if_eq (tgt := 168) hx hb dd_M_near_137 (by decide) (fun c85 => ?_) (fun c85 => absurd (by decide) c85)
                    obtain ⟨x86, ex86⟩ : ∃ y : Int32, y = (nI h) + 1 := ⟨_, rfl⟩
                    refine lv_iinc (v := x86) (lv' := [(8, .int x86), (9, .int (0 : Int32)), (7, .int (nI x7)), (6, .int (nI k)), (5, .int (nI l5)), (0, .ref h0), (1, .int p1), (2, .int p2), (3, .int (nI dd)), (4, .int (nI i9))]) hx hb dd_M_near_168 hl (k := 1) rfl (by rw [ex86]; rfl) (by decide) rfl (fun ls hl => ?_)
                    refine lv_goto (tgt := 56) hx hb dd_M_near_171 (by decide) ?_
                    have hi7 : x86 = nI (h + 1) := by rw [ex86]; exact nI_1 h
                    rw [hi7] at hl
                    rw [← h5] at hl
                    exact jh (h + 1) (by omega) (nI x7) H _ ls (by simp only [su_nx, su_bh, hl5, hq7, if_neg c76, if_neg c78, if_neg c84, if_true, Bool.false_eq_true, if_false]; rfl) hw (lv_sub hl [0, 2, 3, 4, 5, 6, 7, 8, 9] rfl)
                  · skip
                    refine lv_iload hx hb dd_M_near_121 (lv_at hl 0 rfl) ?_
                    refine lv_iload hx hb dd_M_near_123 (lv_at hl 3 rfl) ?_
                    refine lv_icmp_le (tgt := 132) hx hb dd_M_near_125 (by decide) (fun c87 => ?_) (fun c87 => ?_)
                    · skip
                      refine lv_iconst (v := 0) hx hb dd_M_near_132 (by decide) ?_
                      refine lv_istore (lv' := [(9, .int (0 : Int32)), (8, .int (nI h)), (7, .int (nI x7)), (6, .int (nI k)), (5, .int (nI l5)), (0, .ref h0), (1, .int p1), (2, .int p2), (3, .int (nI dd)), (4, .int (nI i9))]) hx hb dd_M_near_133 hl (by decide) rfl (fun ls hl => ?_)
                      refine lv_iload hx hb dd_M_near_135 (lv_at hl 0 rfl) ?_
                      refine lv_if_eq (tgt := 168) hx hb dd_M_near_137 (by decide) (fun c88 => ?_) (fun c88 => absurd (by decide) c88)
                      obtain ⟨x89, ex89⟩ : ∃ y : Int32, y = (nI h) + 1 := ⟨_, rfl⟩
                      refine lv_iinc (v := x89) (lv' := [(8, .int x89), (9, .int (0 : Int32)), (7, .int (nI x7)), (6, .int (nI k)), (5, .int (nI l5)), (0, .ref h0), (1, .int p1), (2, .int p2), (3, .int (nI dd)), (4, .int (nI i9))]) hx hb dd_M_near_168 hl (k := 1) rfl (by rw [ex89]; rfl) (by decide) rfl (fun ls hl => ?_)
                      refine lv_goto (tgt := 56) hx hb dd_M_near_171 (by decide) ?_
                      have hi7 : x89 = nI (h + 1) := by rw [ex89]; exact nI_1 h
                      rw [hi7] at hl
                      rw [← h5] at hl
                      rw [nI_leI (by omega) (by omega)] at c87
                      exact jh (h + 1) (by omega) (nI x7) H _ ls (by simp only [su_nx, su_bh, hl5, hq7, if_neg c76, if_neg c78, if_pos c84, if_pos c87, if_true, Bool.false_eq_true, if_false]; rfl) hw (lv_sub hl [0, 2, 3, 4, 5, 6, 7, 8, 9] rfl)
                    · skip
                      refine lv_iconst (v := 1) hx hb dd_M_near_128 (by decide) ?_
                      refine lv_goto (tgt := 133) hx hb dd_M_near_129 (by decide) ?_
                      refine lv_istore (lv' := [(9, .int (1 : Int32)), (8, .int (nI h)), (7, .int (nI x7)), (6, .int (nI k)), (5, .int (nI l5)), (0, .ref h0), (1, .int p1), (2, .int p2), (3, .int (nI dd)), (4, .int (nI i9))]) hx hb dd_M_near_133 hl (by decide) rfl (fun ls hl => ?_)
                      refine lv_iload hx hb dd_M_near_135 (lv_at hl 0 rfl) ?_
                      refine lv_if_eq (tgt := 168) hx hb dd_M_near_137 (by decide) (fun c90 => absurd c90 (by decide)) (fun c90 => ?_)
                      refine lv_iload hx hb dd_M_near_140 (lv_at hl 2 rfl) ?_
                      refine lv_if_lt (tgt := 164) hx hb dd_M_near_142 (by decide) (fun c91 => absurd c91 (nI_pos (by omega))) (fun c91 => ?_)
                      refine lv_aload_n hx hb dd_M_near_145 rfl (lv_at hl 5 rfl) ?_
                      refine lv_iload_n hx hb dd_M_near_146 rfl (lv_at hl 6 rfl) ?_
                      refine lv_iload_n hx hb dd_M_near_147 rfl (lv_at hl 7 rfl) ?_
                      refine lv_iload hx hb dd_M_near_148 (lv_at hl 1 rfl) ?_
                      refine cx_after (cx_rV (n := 3) (As := [.int p1, .int p2, .int (nI h)]) (rest := []) ⟨hx, hb, hml, hown, hg⟩ (c_M_hose l z D ac sa P34 h0 ma mv (su_gs (1 : Int32) (1 : Int32) (1 : Int32) (1 : Int32)) (nI n) al (nI t) so p1 p2 h (by omega) mwP34) (cx_gv gm_M_127 gi_M_hose gs_M_hose gn_M gc_M_hose) (by decide +kernel) ⟨by decide, by decide⟩ hK hw mwP34.1 rfl rfl hl.1 rfl (Nat.le_of_ble_eq_true rfl) dd_M_near_150 ⟨by decide, by decide⟩) hw (fun v9 P9 H locs hp hw => ?_)
                      obtain ⟨rfl, e9⟩ := hp
                      rw [e9] at hw
                      clear e9 P9
                      refine W.eq (g2 := F0 m 153 ls [.int (su_mh mv p1 p2 h)]) rfl ?_
                      refine lv_aload_n hx hb dd_M_near_153 rfl (lv_at hl 5 rfl) ?_
                      refine lv_iload_n hx hb dd_M_near_154 rfl (lv_at hl 6 rfl) ?_
                      refine lv_iload_n hx hb dd_M_near_155 rfl (lv_at hl 7 rfl) ?_
                      refine lv_iload hx hb dd_M_near_156 (lv_at hl 2 rfl) ?_
                      refine cx_after (cx_rV (n := 3) (As := [.int p1, .int p2, .int (nI x7)]) (rest := [.int (su_mh mv p1 p2 h)]) ⟨hx, hb, hml, hown, hg⟩ (c_M_hose l z D ac sa P34 h0 ma mv (su_gs (1 : Int32) (1 : Int32) (1 : Int32) (1 : Int32)) (nI n) al (nI t) so p1 p2 x7 (by omega) mwP34) (cx_gv gm_M_127 gi_M_hose gs_M_hose gn_M gc_M_hose) (by decide +kernel) ⟨by decide, by decide⟩ hK hw mwP34.1 rfl rfl hl.1 rfl (Nat.le_of_ble_eq_true rfl) dd_M_near_158 ⟨by decide, by decide⟩) hw (fun v9 P9 H locs hp hw => ?_)
                      obtain ⟨rfl, e9⟩ := hp
                      rw [e9] at hw
                      clear e9 P9
                      refine W.eq (g2 := F0 m 161 ls [.int (su_mh mv p1 p2 x7), .int (su_mh mv p1 p2 h)]) rfl ?_
                      refine lv_icmp_ge (tgt := 168) hx hb dd_M_near_161 (by decide) (fun c92 => ?_) (fun c92 => ?_)
                      · skip
                        obtain ⟨x93, ex93⟩ : ∃ y : Int32, y = (nI h) + 1 := ⟨_, rfl⟩
                        refine lv_iinc (v := x93) (lv' := [(8, .int x93), (9, .int (1 : Int32)), (7, .int (nI x7)), (6, .int (nI k)), (5, .int (nI l5)), (0, .ref h0), (1, .int p1), (2, .int p2), (3, .int (nI dd)), (4, .int (nI i9))]) hx hb dd_M_near_168 hl (k := 1) rfl (by rw [ex93]; rfl) (by decide) rfl (fun ls hl => ?_)
                        refine lv_goto (tgt := 56) hx hb dd_M_near_171 (by decide) ?_
                        have hi7 : x93 = nI (h + 1) := by rw [ex93]; exact nI_1 h
                        rw [hi7] at hl
                        rw [← h5] at hl
                        rw [nI_leI (by omega) (by omega)] at c87
                        exact jh (h + 1) (by omega) (nI x7) H _ ls (by simp only [su_nx, su_bh, hl5, hq7, if_neg c76, if_neg c78, if_pos c84, if_neg c87, if_pos c92, if_true, Bool.false_eq_true, if_false]; rfl) hw (lv_sub hl [0, 2, 3, 4, 5, 6, 7, 8, 9] rfl)
                      · skip
                        refine lv_iload hx hb dd_M_near_164 (lv_at hl 1 rfl) ?_
                        refine lv_istore (lv' := [(7, .int (nI h)), (9, .int (1 : Int32)), (8, .int (nI h)), (6, .int (nI k)), (5, .int (nI l5)), (0, .ref h0), (1, .int p1), (2, .int p2), (3, .int (nI dd)), (4, .int (nI i9))]) hx hb dd_M_near_166 hl (by decide) rfl (fun ls hl => ?_)
                        obtain ⟨x94, ex94⟩ : ∃ y : Int32, y = (nI h) + 1 := ⟨_, rfl⟩
                        refine lv_iinc (v := x94) (lv' := [(8, .int x94), (7, .int (nI h)), (9, .int (1 : Int32)), (6, .int (nI k)), (5, .int (nI l5)), (0, .ref h0), (1, .int p1), (2, .int p2), (3, .int (nI dd)), (4, .int (nI i9))]) hx hb dd_M_near_168 hl (k := 2) rfl (by rw [ex94]; rfl) (by decide) rfl (fun ls hl => ?_)
                        refine lv_goto (tgt := 56) hx hb dd_M_near_171 (by decide) ?_
                        have hi7 : x94 = nI (h + 1) := by rw [ex94]; exact nI_1 h
                        rw [hi7] at hl
                        rw [← h5] at hl
                        rw [nI_leI (by omega) (by omega)] at c87
                        exact jh (h + 1) (by omega) (nI h) H _ ls (by simp only [su_nx, su_bh, hl5, hq7, if_neg c76, if_neg c78, if_pos c84, if_neg c87, if_neg c92, if_true, Bool.false_eq_true, if_false]; rfl) hw (lv_sub hl [0, 1, 3, 4, 5, 6, 7, 8, 9] rfl)
              · skip
                refine lv_goto (tgt := 168) hx hb dd_M_near_75 (by decide) ?_
                obtain ⟨x95, ex95⟩ : ∃ y : Int32, y = (nI h) + 1 := ⟨_, rfl⟩
                refine lv_iinc (v := x95) (lv' := [(8, .int x95), (7, .int (nI x7)), (6, .int (nI k)), (5, .int (nI l5)), (0, .ref h0), (1, .int p1), (2, .int p2), (3, .int (nI dd)), (4, .int (nI i9))]) hx hb dd_M_near_168 hl (k := 0) rfl (by rw [ex95]; rfl) (by decide) rfl (fun ls hl => ?_)
                refine lv_goto (tgt := 56) hx hb dd_M_near_171 (by decide) ?_
                have hi7 : x95 = nI (h + 1) := by rw [ex95]; exact nI_1 h
                rw [hi7] at hl
                rw [← h5] at hl
                exact jh (h + 1) (by omega) (nI x7) H _ ls (by simp only [su_nx, su_bh, hl5, hq7, if_pos c76, if_true, Bool.false_eq_true, if_false]; rfl) hw (lv_sub hl [0, 1, 2, 3, 4, 5, 6, 7, 8] rfl)
      refine lv_iload hx hb dd_M_near_43 (lv_at hl 0 rfl) ?_
      refine lv_iload hx hb dd_M_near_45 (lv_at hl 6 rfl) ?_
      refine lv_icmp_gt (tgt := 191) hx hb dd_M_near_47 (by decide) (fun c96 => absurd c96 (nI_nlt (by omega) (by omega))) (fun c96 => ?_)
      refine lv_iconst (v := (-1)) hx hb dd_M_near_50 (by decide) ?_
      refine lv_istore (lv' := [(7, .int (-1 : Int32)), (6, .int (nI k)), (5, .int o5), (0, .ref h0), (1, .int p1), (2, .int p2), (3, .int (nI dd)), (4, .int (nI i9))]) hx hb dd_M_near_51 hl (by decide) rfl (fun ls hl => ?_)
      refine lv_iconst (v := 0) hx hb dd_M_near_53 (by decide) ?_
      refine lv_istore (lv' := [(8, .int (0 : Int32)), (7, .int (-1 : Int32)), (6, .int (nI k)), (5, .int o5), (0, .ref h0), (1, .int p1), (2, .int p2), (3, .int (nI dd)), (4, .int (nI i9))]) hx hb dd_M_near_54 hl (by decide) rfl (fun ls hl => ?_)
      exact inner n 0 (Nat.zero_add n) (-1) _ _ ls rfl hw (lv_sub hl [0, 1, 2, 3, 4, 5, 6, 7, 8] rfl)
  exact lp (i9 + 1) 0 (Nat.zero_add _) (.inl rfl) (-1) _ _ ls rfl hw (lv_sub hl [0, 1, 2, 3, 4, 5, 6] rfl)

def su_oz (x : Int32) : Int32 := if 0 ≤ x then 1 else 0
theorem su_oz1 {x : Int32} (h : 0 ≤ x) : ¬ su_oz x = 0 := by rw [su_oz, if_pos h]; decide
theorem su_oz0 {x : Int32} (h : ¬ 0 ≤ x) : su_oz x = 0 := by rw [su_oz, if_neg h]
def su_n3 (a b c : Int32) : Int32 := if a = 0 then 0 else if b = 0 then 0 else if c < 0 then 0 else 1
def su_msm (mv : Nat → Nat → Int32) (us : Nat → Int32) (t : Nat) (a b p len : Int32) (m : Nat) : Nat → Int32
  | 0 => 0
  | h + 1 => if mv 2 h = nI m then (if us h = 0 then su_msm mv us t a b p len m h else if len < su_mh mv a b h then su_msm mv us t a b p len m h else match su_cm (mv 10) (mv 11) (nI h) t with
    | none => su_msm mv us t a b p len m h
    | some i => if su_mct mv i p = 0 then su_msm mv us t a b p len m h else su_msm mv us t a b p len m h + su_mup mv i p / su_mdn mv i p) else su_msm mv us t a b p len m h
def su_mal (mv : Nat → Nat → Int32) (us : Nat → Int32) (n t : Nat) (a b p len : Int32) : Nat → Int32
  | 0 => 0
  | m + 1 => su_mal mv us n t a b p len m + (if su_msm mv us t a b p len m n ≤ mv 9 m then su_msm mv us t a b p len m n else mv 9 m)

set_option maxHeartbeats 4000000 in
set_option maxRecDepth 100000 in
theorem c_M_nearA (l : Launch) (z : Nat) (D : va_G) (ac : Nat → ClassId) (sa : Nat → Nat) (P : pm_T) (h0 : Nat) (ma : Nat → Nat) (mv : Nat → Nat → Int32) (th al so : Int32) (n t : Nat) (hn40 : n ≤ 40) (ht100 : t ≤ 100) (p1 p2 p3 p4 : Int32) (hA : su_n3 (su_pm p1 p2) (su_in p3 0 99999) p4 = 0) (mw : md_W P ac h0 ma mv th (nI n) al (nI t) so)  : cx_M l yy_M_near bb_M_near 10 (some .int) ({ frames := 3, cells := 0, slots := 0, locals := 90 } : Room) z D ac sa P [.ref h0, .int p1, .int p2, .int p3, .int p4] (fun v P' => v = some (.int 0) ∧ md_W P' ac h0 ma mv 1 (nI n) al (nI t) so ∧ md_F P P' h0 ma) := by
  refine cx_ofM (by decide) (Nat.le_of_ble_eq_true rfl) (fun p e s m below meth c ls hx hb hr hml hg hown hlocks hin hK hw hl => ?_)
  have hl : lv_has ls 10 [(0, .ref h0), (1, .int p1), (2, .int p2), (3, .int p3), (4, .int p4)] := hl
  have hown : s.vm.findClass cn_M = some m.cls := hown
  have j26 : ∀ (H : Heap) (locs : List Loc) (ls : Array Slot), pm_W z D cl_w P s.heap H locs → lv_has ls 10 [(0, .ref h0), (1, .int p1), (2, .int p2), (3, .int p3), (4, .int p4)] → W p l e ({ frames := 3, cells := 0, slots := 0, locals := 90 } : Room) s m ([.ref h0, .int p1, .int p2, .int p3, .int p4] : List Value).toArray below meth c H locs 0 0 (MQ below (cx_Q z D (fun v P' => v = some (.int 0) ∧ md_W P' ac h0 ma mv 1 (nI n) al (nI t) so ∧ md_F P P' h0 ma)) ([.ref h0, .int p1, .int p2, .int p3, .int p4] : List Value).toArray s ({ frames := 3, cells := 0, slots := 0, locals := 90 } : Room).cells ({ frames := 3, cells := 0, slots := 0, locals := 90 } : Room).slots (pm_A z)) (F0 m 26 ls [.int (su_n3 (su_pm p1 p2) (su_in p3 0 99999) p4), .ref h0]) := by
    intro H locs ls hw hl
    refine W.eq (g2 := F0 m 26 ls [.int (0 : Int32), .ref h0]) (by rw [show (su_n3 (su_pm p1 p2) (su_in p3 0 99999) p4) = (0 : Int32) from hA]) ?_
    refine lv_iconst (v := 1) hx hb dd_M_near_26 (by decide) ?_
    refine lv_iconst (v := 1) hx hb dd_M_near_27 (by decide) ?_
    refine lv_iconst (v := 1) hx hb dd_M_near_28 (by decide) ?_
    refine cx_after (cx_rV (n := 4) (As := [.int (0 : Int32), .int (1 : Int32), .int (1 : Int32), .int (1 : Int32)]) (rest := []) ⟨hx, hb, hml, hown, hg⟩ (c_M_goes l z D ac sa P h0 ma mv th (nI n) al (nI t) so (0 : Int32) (1 : Int32) (1 : Int32) (1 : Int32) mw) (cx_gv gm_M_83 gi_M_goes gs_M_goes gn_M gc_M_goes) (by decide +kernel) ⟨by decide, by decide⟩ hK hw mw.1 rfl rfl hl.1 rfl (Nat.le_of_ble_eq_true rfl) dd_M_near_29 ⟨by decide, by decide⟩) hw (fun v9 P9 H locs hp hw => ?_)
    obtain ⟨rfl, e9⟩ := hp
    rw [e9] at hw
    clear e9 P9
    refine W.eq (g2 := F0 m 32 ls [.int (if (su_gs (0 : Int32) (1 : Int32) (1 : Int32) (1 : Int32)) = 0 then 1 else 0)]) rfl ?_
    obtain ⟨P36, eP36⟩ : ∃ pmv : pm_T, pmv = pm_up P h0 (md_o ma (su_gs (0 : Int32) (1 : Int32) (1 : Int32) (1 : Int32)) (nI n) al (nI t) so) := ⟨_, rfl⟩
    have hw : pm_W z D cl_w (pm_up P h0 (md_o ma (su_gs (0 : Int32) (1 : Int32) (1 : Int32) (1 : Int32)) (nI n) al (nI t) so)) s.heap H _ := hw
    rw [← eP36] at hw
    have mwP36 : md_W P36 ac h0 ma mv (su_gs (0 : Int32) (1 : Int32) (1 : Int32) (1 : Int32)) (nI n) al (nI t) so := by rw [eP36]; exact md_W.obj mw
    have mfP36 : md_F P P36 h0 ma := by rw [eP36]; exact md_F.obj md_F.rf
    refine W.eq (g2 := F0 m 32 ls [.int (0 : Int32)]) (by rw [show (if (su_gs (0 : Int32) (1 : Int32) (1 : Int32) (1 : Int32)) = 0 then 1 else 0) = (0 : Int32) from if_neg (fun h8 => (su_gs0 h8).1 rfl)]) ?_
    refine lv_if_ne (tgt := 37) hx hb dd_M_near_32 (by decide) (fun c37 => absurd (by decide) c37) (fun c37 => ?_)
    refine lv_iconst (v := 0) hx hb dd_M_near_35 (by decide) ?_
    refine cx_iret (v := (0 : Int32)) hx hb hr rfl hlocks hw dd_M_near_36 (by decide) (by decide) ?_
    exact ⟨rfl, by have h7 := mwP36; rw [show (su_gs (0 : Int32) (1 : Int32) (1 : Int32) (1 : Int32)) = 1 from by simp [su_gs]] at h7; exact h7, mfP36⟩
  refine lv_aload_n hx hb dd_M_near_0 rfl (lv_at hl 0 rfl) ?_
  refine lv_iload_n hx hb dd_M_near_1 rfl (lv_at hl 1 rfl) ?_
  refine lv_iload_n hx hb dd_M_near_2 rfl (lv_at hl 2 rfl) ?_
  refine cx_after (cx_rS (n := 2) (As := [.int p1, .int p2]) (rest := [.ref h0]) ⟨hx, hb, hml, hown, hg⟩ (c_M_isPlace l z D ac sa P p1 p2) (cx_gs gm_M_79 gt_M_isPlace gn_M gc_M_isPlace) (by decide +kernel) ⟨by decide, by decide⟩ hK hw rfl hl.1 rfl (Nat.le_of_ble_eq_true rfl) dd_M_near_3 ⟨by decide, by decide⟩) hw (fun v9 P9 H locs hp hw => ?_)
  obtain ⟨rfl, e9⟩ := hp
  rw [e9] at hw
  clear e9 P9
  refine W.eq (g2 := F0 m 6 ls [.int (su_pm p1 p2), .ref h0]) rfl ?_
  refine lv_if_eq (tgt := 25) hx hb dd_M_near_6 (by decide) (fun c38 => ?_) (fun c38 => ?_)
  · skip
    refine lv_iconst (v := 0) hx hb dd_M_near_25 (by decide) ?_
    refine W.eq (g2 := F0 m 26 ls [.int (su_n3 (su_pm p1 p2) (su_in p3 0 99999) p4), .ref h0]) (by rw [show (su_n3 (su_pm p1 p2) (su_in p3 0 99999) p4) = (0 : Int32) from by rw [su_n3, if_pos c38]]) ?_
    exact j26 _ _ ls hw (lv_sub hl [0, 1, 2, 3, 4] rfl)
  · skip
    refine lv_iload_n hx hb dd_M_near_9 rfl (lv_at hl 3 rfl) ?_
    refine cx_after (cx_rS (n := 1) (As := [.int p3]) (rest := [.ref h0]) ⟨hx, hb, hml, hown, hg⟩ (c_M_isDay l z D ac sa P p3) (cx_gs gm_M_98 gt_M_isDay gn_M gc_M_isDay) (by decide +kernel) ⟨by decide, by decide⟩ hK hw rfl hl.1 rfl (Nat.le_of_ble_eq_true rfl) dd_M_near_10 ⟨by decide, by decide⟩) hw (fun v9 P9 H locs hp hw => ?_)
    obtain ⟨rfl, e9⟩ := hp
    rw [e9] at hw
    clear e9 P9
    refine W.eq (g2 := F0 m 13 ls [.int (su_in p3 0 99999), .ref h0]) rfl ?_
    refine lv_if_eq (tgt := 25) hx hb dd_M_near_13 (by decide) (fun c39 => ?_) (fun c39 => ?_)
    · skip
      refine lv_iconst (v := 0) hx hb dd_M_near_25 (by decide) ?_
      refine W.eq (g2 := F0 m 26 ls [.int (su_n3 (su_pm p1 p2) (su_in p3 0 99999) p4), .ref h0]) (by rw [show (su_n3 (su_pm p1 p2) (su_in p3 0 99999) p4) = (0 : Int32) from by rw [su_n3, if_neg c38, if_pos c39]]) ?_
      exact j26 _ _ ls hw (lv_sub hl [0, 1, 2, 3, 4] rfl)
    · skip
      refine lv_iload hx hb dd_M_near_16 (lv_at hl 4 rfl) ?_
      refine lv_if_lt (tgt := 25) hx hb dd_M_near_18 (by decide) (fun c40 => ?_) (fun c40 => ?_)
      · skip
        refine lv_iconst (v := 0) hx hb dd_M_near_25 (by decide) ?_
        refine W.eq (g2 := F0 m 26 ls [.int (su_n3 (su_pm p1 p2) (su_in p3 0 99999) p4), .ref h0]) (by rw [show (su_n3 (su_pm p1 p2) (su_in p3 0 99999) p4) = (0 : Int32) from by rw [su_n3, if_neg c38, if_neg c39, if_pos c40]]) ?_
        exact j26 _ _ ls hw (lv_sub hl [0, 1, 2, 3, 4] rfl)
      · skip
        refine lv_iconst (v := 1) hx hb dd_M_near_21 (by decide) ?_
        refine lv_goto (tgt := 26) hx hb dd_M_near_22 (by decide) ?_
        refine W.eq (g2 := F0 m 26 ls [.int (su_n3 (su_pm p1 p2) (su_in p3 0 99999) p4), .ref h0]) (by rw [show (su_n3 (su_pm p1 p2) (su_in p3 0 99999) p4) = (1 : Int32) from by rw [su_n3, if_neg c38, if_neg c39, if_neg c40]]) ?_
        exact j26 _ _ ls hw (lv_sub hl [0, 1, 2, 3, 4] rfl)

set_option maxHeartbeats 4000000 in
set_option maxRecDepth 100000 in
theorem c_M_overdueA (l : Launch) (z : Nat) (D : va_G) (ac : Nat → ClassId) (sa : Nat → Nat) (P : pm_T) (h0 : Nat) (ma : Nat → Nat) (mv : Nat → Nat → Int32) (th al so : Int32) (n t : Nat) (hn40 : n ≤ 40) (ht100 : t ≤ 100) (p1 p2 p3 : Int32) (hA : su_n3 (su_in p1 0 99999) (su_in p2 0 9999) p3 = 0) (mw : md_W P ac h0 ma mv th (nI n) al (nI t) so)  : cx_M l yy_M_overdue bb_M_overdue 10 (some .int) ({ frames := 3, cells := 0, slots := 0, locals := 90 } : Room) z D ac sa P [.ref h0, .int p1, .int p2, .int p3] (fun v P' => v = some (.int 0) ∧ md_W P' ac h0 ma mv 1 (nI n) al (nI t) so ∧ md_F P P' h0 ma) := by
  refine cx_ofM (by decide) (Nat.le_of_ble_eq_true rfl) (fun p e s m below meth c ls hx hb hr hml hg hown hlocks hin hK hw hl => ?_)
  have hl : lv_has ls 10 [(0, .ref h0), (1, .int p1), (2, .int p2), (3, .int p3)] := hl
  have hown : s.vm.findClass cn_M = some m.cls := hown
  have j28 : ∀ (H : Heap) (locs : List Loc) (ls : Array Slot), pm_W z D cl_w P s.heap H locs → lv_has ls 10 [(0, .ref h0), (1, .int p1), (2, .int p2), (3, .int p3)] → W p l e ({ frames := 3, cells := 0, slots := 0, locals := 90 } : Room) s m ([.ref h0, .int p1, .int p2, .int p3] : List Value).toArray below meth c H locs 0 0 (MQ below (cx_Q z D (fun v P' => v = some (.int 0) ∧ md_W P' ac h0 ma mv 1 (nI n) al (nI t) so ∧ md_F P P' h0 ma)) ([.ref h0, .int p1, .int p2, .int p3] : List Value).toArray s ({ frames := 3, cells := 0, slots := 0, locals := 90 } : Room).cells ({ frames := 3, cells := 0, slots := 0, locals := 90 } : Room).slots (pm_A z)) (F0 m 28 ls [.int (su_n3 (su_in p1 0 99999) (su_in p2 (0 : Int32) (9999 : Int32)) p3), .ref h0]) := by
    intro H locs ls hw hl
    refine W.eq (g2 := F0 m 28 ls [.int (0 : Int32), .ref h0]) (by rw [show (su_n3 (su_in p1 0 99999) (su_in p2 (0 : Int32) (9999 : Int32)) p3) = (0 : Int32) from hA]) ?_
    refine lv_iconst (v := 1) hx hb dd_M_overdue_28 (by decide) ?_
    refine lv_iconst (v := 1) hx hb dd_M_overdue_29 (by decide) ?_
    refine lv_iconst (v := 1) hx hb dd_M_overdue_30 (by decide) ?_
    refine cx_after (cx_rV (n := 4) (As := [.int (0 : Int32), .int (1 : Int32), .int (1 : Int32), .int (1 : Int32)]) (rest := []) ⟨hx, hb, hml, hown, hg⟩ (c_M_goes l z D ac sa P h0 ma mv th (nI n) al (nI t) so (0 : Int32) (1 : Int32) (1 : Int32) (1 : Int32) mw) (cx_gv gm_M_83 gi_M_goes gs_M_goes gn_M gc_M_goes) (by decide +kernel) ⟨by decide, by decide⟩ hK hw mw.1 rfl rfl hl.1 rfl (Nat.le_of_ble_eq_true rfl) dd_M_overdue_31 ⟨by decide, by decide⟩) hw (fun v9 P9 H locs hp hw => ?_)
    obtain ⟨rfl, e9⟩ := hp
    rw [e9] at hw
    clear e9 P9
    refine W.eq (g2 := F0 m 34 ls [.int (if (su_gs (0 : Int32) (1 : Int32) (1 : Int32) (1 : Int32)) = 0 then 1 else 0)]) rfl ?_
    obtain ⟨P36, eP36⟩ : ∃ pmv : pm_T, pmv = pm_up P h0 (md_o ma (su_gs (0 : Int32) (1 : Int32) (1 : Int32) (1 : Int32)) (nI n) al (nI t) so) := ⟨_, rfl⟩
    have hw : pm_W z D cl_w (pm_up P h0 (md_o ma (su_gs (0 : Int32) (1 : Int32) (1 : Int32) (1 : Int32)) (nI n) al (nI t) so)) s.heap H _ := hw
    rw [← eP36] at hw
    have mwP36 : md_W P36 ac h0 ma mv (su_gs (0 : Int32) (1 : Int32) (1 : Int32) (1 : Int32)) (nI n) al (nI t) so := by rw [eP36]; exact md_W.obj mw
    have mfP36 : md_F P P36 h0 ma := by rw [eP36]; exact md_F.obj md_F.rf
    refine W.eq (g2 := F0 m 34 ls [.int (0 : Int32)]) (by rw [show (if (su_gs (0 : Int32) (1 : Int32) (1 : Int32) (1 : Int32)) = 0 then 1 else 0) = (0 : Int32) from if_neg (fun h8 => (su_gs0 h8).1 rfl)]) ?_
    refine lv_if_ne (tgt := 39) hx hb dd_M_overdue_34 (by decide) (fun c37 => absurd (by decide) c37) (fun c37 => ?_)
    refine lv_iconst (v := 0) hx hb dd_M_overdue_37 (by decide) ?_
    refine cx_iret (v := (0 : Int32)) hx hb hr rfl hlocks hw dd_M_overdue_38 (by decide) (by decide) ?_
    exact ⟨rfl, by have h7 := mwP36; rw [show (su_gs (0 : Int32) (1 : Int32) (1 : Int32) (1 : Int32)) = 1 from by simp [su_gs]] at h7; exact h7, mfP36⟩
  refine lv_aload_n hx hb dd_M_overdue_0 rfl (lv_at hl 0 rfl) ?_
  refine lv_iload_n hx hb dd_M_overdue_1 rfl (lv_at hl 1 rfl) ?_
  refine cx_after (cx_rS (n := 1) (As := [.int p1]) (rest := [.ref h0]) ⟨hx, hb, hml, hown, hg⟩ (c_M_isDay l z D ac sa P p1) (cx_gs gm_M_98 gt_M_isDay gn_M gc_M_isDay) (by decide +kernel) ⟨by decide, by decide⟩ hK hw rfl hl.1 rfl (Nat.le_of_ble_eq_true rfl) dd_M_overdue_2 ⟨by decide, by decide⟩) hw (fun v9 P9 H locs hp hw => ?_)
  obtain ⟨rfl, e9⟩ := hp
  rw [e9] at hw
  clear e9 P9
  refine W.eq (g2 := F0 m 5 ls [.int (su_in p1 0 99999), .ref h0]) rfl ?_
  refine lv_if_eq (tgt := 27) hx hb dd_M_overdue_5 (by decide) (fun c38 => ?_) (fun c38 => ?_)
  · skip
    refine lv_iconst (v := 0) hx hb dd_M_overdue_27 (by decide) ?_
    refine W.eq (g2 := F0 m 28 ls [.int (su_n3 (su_in p1 0 99999) (su_in p2 (0 : Int32) (9999 : Int32)) p3), .ref h0]) (by rw [show (su_n3 (su_in p1 0 99999) (su_in p2 (0 : Int32) (9999 : Int32)) p3) = (0 : Int32) from by rw [su_n3, if_pos c38]]) ?_
    exact j28 _ _ ls hw (lv_sub hl [0, 1, 2, 3] rfl)
  · skip
    refine lv_iload_n hx hb dd_M_overdue_8 rfl (lv_at hl 2 rfl) ?_
    refine lv_iconst (v := 0) hx hb dd_M_overdue_9 (by decide) ?_
    refine lv_sipush (v := 9999) hx hb dd_M_overdue_10 (by decide) ?_
    refine cx_after (cx_rS (n := 3) (As := [.int p2, .int (0 : Int32), .int (9999 : Int32)]) (rest := [.ref h0]) ⟨hx, hb, hml, hown, hg⟩ (c_M_in l z D ac sa P p2 (0 : Int32) (9999 : Int32)) (cx_gs gm_M_72 gt_M_in gn_M gc_M_in) (by decide +kernel) ⟨by decide, by decide⟩ hK hw rfl hl.1 rfl (Nat.le_of_ble_eq_true rfl) dd_M_overdue_13 ⟨by decide, by decide⟩) hw (fun v9 P9 H locs hp hw => ?_)
    obtain ⟨rfl, e9⟩ := hp
    rw [e9] at hw
    clear e9 P9
    refine W.eq (g2 := F0 m 16 ls [.int (su_in p2 (0 : Int32) (9999 : Int32)), .ref h0]) rfl ?_
    refine lv_if_eq (tgt := 27) hx hb dd_M_overdue_16 (by decide) (fun c39 => ?_) (fun c39 => ?_)
    · skip
      refine lv_iconst (v := 0) hx hb dd_M_overdue_27 (by decide) ?_
      refine W.eq (g2 := F0 m 28 ls [.int (su_n3 (su_in p1 0 99999) (su_in p2 (0 : Int32) (9999 : Int32)) p3), .ref h0]) (by rw [show (su_n3 (su_in p1 0 99999) (su_in p2 (0 : Int32) (9999 : Int32)) p3) = (0 : Int32) from by rw [su_n3, if_neg c38, if_pos c39]]) ?_
      exact j28 _ _ ls hw (lv_sub hl [0, 1, 2, 3] rfl)
    · skip
      refine lv_iload_n hx hb dd_M_overdue_19 rfl (lv_at hl 3 rfl) ?_
      refine lv_if_lt (tgt := 27) hx hb dd_M_overdue_20 (by decide) (fun c40 => ?_) (fun c40 => ?_)
      · skip
        refine lv_iconst (v := 0) hx hb dd_M_overdue_27 (by decide) ?_
        refine W.eq (g2 := F0 m 28 ls [.int (su_n3 (su_in p1 0 99999) (su_in p2 (0 : Int32) (9999 : Int32)) p3), .ref h0]) (by rw [show (su_n3 (su_in p1 0 99999) (su_in p2 (0 : Int32) (9999 : Int32)) p3) = (0 : Int32) from by rw [su_n3, if_neg c38, if_neg c39, if_pos c40]]) ?_
        exact j28 _ _ ls hw (lv_sub hl [0, 1, 2, 3] rfl)
      · skip
        refine lv_iconst (v := 1) hx hb dd_M_overdue_23 (by decide) ?_
        refine lv_goto (tgt := 28) hx hb dd_M_overdue_24 (by decide) ?_
        refine W.eq (g2 := F0 m 28 ls [.int (su_n3 (su_in p1 0 99999) (su_in p2 (0 : Int32) (9999 : Int32)) p3), .ref h0]) (by rw [show (su_n3 (su_in p1 0 99999) (su_in p2 (0 : Int32) (9999 : Int32)) p3) = (1 : Int32) from by rw [su_n3, if_neg c38, if_neg c39, if_neg c40]]) ?_
        exact j28 _ _ ls hw (lv_sub hl [0, 1, 2, 3] rfl)

set_option maxHeartbeats 4000000 in
set_option maxRecDepth 100000 in
theorem c_M_overdueC (l : Launch) (z : Nat) (D : va_G) (ac : Nat → ClassId) (sa : Nat → Nat) (P : pm_T) (h0 : Nat) (ma : Nat → Nat) (mv : Nat → Nat → Int32) (th al so : Int32) (n t : Nat) (hn40 : n ≤ 40) (ht100 : t ≤ 100) (p1 p2 : Int32) (hp1 : su_in p1 0 99999 = 1) (hp2 : su_in p2 0 9999 = 1) (i9 : Nat) (hi9 : i9 < 2 ^ 31) (hov : ∀ k, ¬ su_kt (fun j => su_oz (su_lat mv t p1 p2 j)) (fun j => su_lat mv t p1 p2 j) n k = none → k + 1 < 2 ^ 31) (mw : md_W P ac h0 ma mv th (nI n) al (nI t) so)  : cx_M l yy_M_overdue bb_M_overdue 10 (some .int) ({ frames := 3, cells := 0, slots := 0, locals := 90 } : Room) z D ac sa P [.ref h0, .int p1, .int p2, .int (nI i9)] (fun v P' => v = some (.int (su_oi (su_kt (fun j => su_oz (su_lat mv t p1 p2 j)) (fun j => su_lat mv t p1 p2 j) n i9))) ∧ md_W P' ac h0 ma mv 0 (nI n) al (nI t) so ∧ md_F P P' h0 ma) := by
  refine cx_ofM (by decide) (Nat.le_of_ble_eq_true rfl) (fun p e s m below meth c ls hx hb hr hml hg hown hlocks hin hK hw hl => ?_)
  have hl : lv_has ls 10 [(0, .ref h0), (1, .int p1), (2, .int p2), (3, .int (nI i9))] := hl
  have hown : s.vm.findClass cn_M = some m.cls := hown
  refine lv_aload_n hx hb dd_M_overdue_0 rfl (lv_at hl 0 rfl) ?_
  refine lv_iload_n hx hb dd_M_overdue_1 rfl (lv_at hl 1 rfl) ?_
  refine cx_after (cx_rS (n := 1) (As := [.int p1]) (rest := [.ref h0]) ⟨hx, hb, hml, hown, hg⟩ (c_M_isDay l z D ac sa P p1) (cx_gs gm_M_98 gt_M_isDay gn_M gc_M_isDay) (by decide +kernel) ⟨by decide, by decide⟩ hK hw rfl hl.1 rfl (Nat.le_of_ble_eq_true rfl) dd_M_overdue_2 ⟨by decide, by decide⟩) hw (fun v9 P9 H locs hp hw => ?_)
  obtain ⟨rfl, e9⟩ := hp
  rw [e9] at hw
  clear e9 P9
  refine W.eq (g2 := F0 m 5 ls [.int (su_in p1 0 99999), .ref h0]) rfl ?_
  refine W.eq (g2 := F0 m 5 ls [.int (1 : Int32), .ref h0]) (by rw [show (su_in p1 0 99999) = (1 : Int32) from hp1]) ?_
  refine lv_if_eq (tgt := 27) hx hb dd_M_overdue_5 (by decide) (fun c31 => absurd c31 (by decide)) (fun c31 => ?_)
  refine lv_iload_n hx hb dd_M_overdue_8 rfl (lv_at hl 2 rfl) ?_
  refine lv_iconst (v := 0) hx hb dd_M_overdue_9 (by decide) ?_
  refine lv_sipush (v := 9999) hx hb dd_M_overdue_10 (by decide) ?_
  refine cx_after (cx_rS (n := 3) (As := [.int p2, .int (0 : Int32), .int (9999 : Int32)]) (rest := [.ref h0]) ⟨hx, hb, hml, hown, hg⟩ (c_M_in l z D ac sa P p2 (0 : Int32) (9999 : Int32)) (cx_gs gm_M_72 gt_M_in gn_M gc_M_in) (by decide +kernel) ⟨by decide, by decide⟩ hK hw rfl hl.1 rfl (Nat.le_of_ble_eq_true rfl) dd_M_overdue_13 ⟨by decide, by decide⟩) hw (fun v9 P9 H locs hp hw => ?_)
  obtain ⟨rfl, e9⟩ := hp
  rw [e9] at hw
  clear e9 P9
  refine W.eq (g2 := F0 m 16 ls [.int (su_in p2 (0 : Int32) (9999 : Int32)), .ref h0]) rfl ?_
  refine W.eq (g2 := F0 m 16 ls [.int (1 : Int32), .ref h0]) (by rw [show (su_in p2 (0 : Int32) (9999 : Int32)) = (1 : Int32) from hp2]) ?_
  refine lv_if_eq (tgt := 27) hx hb dd_M_overdue_16 (by decide) (fun c32 => absurd c32 (by decide)) (fun c32 => ?_)
  refine lv_iload_n hx hb dd_M_overdue_19 rfl (lv_at hl 3 rfl) ?_
  refine lv_if_lt (tgt := 27) hx hb dd_M_overdue_20 (by decide) (fun c33 => absurd c33 (nI_pos hi9)) (fun c33 => ?_)
  refine lv_iconst (v := 1) hx hb dd_M_overdue_23 (by decide) ?_
  refine lv_goto (tgt := 28) hx hb dd_M_overdue_24 (by decide) ?_
  refine lv_iconst (v := 1) hx hb dd_M_overdue_28 (by decide) ?_
  refine lv_iconst (v := 1) hx hb dd_M_overdue_29 (by decide) ?_
  refine lv_iconst (v := 1) hx hb dd_M_overdue_30 (by decide) ?_
  refine cx_after (cx_rV (n := 4) (As := [.int (1 : Int32), .int (1 : Int32), .int (1 : Int32), .int (1 : Int32)]) (rest := []) ⟨hx, hb, hml, hown, hg⟩ (c_M_goes l z D ac sa P h0 ma mv th (nI n) al (nI t) so (1 : Int32) (1 : Int32) (1 : Int32) (1 : Int32) mw) (cx_gv gm_M_83 gi_M_goes gs_M_goes gn_M gc_M_goes) (by decide +kernel) ⟨by decide, by decide⟩ hK hw mw.1 rfl rfl hl.1 rfl (Nat.le_of_ble_eq_true rfl) dd_M_overdue_31 ⟨by decide, by decide⟩) hw (fun v9 P9 H locs hp hw => ?_)
  obtain ⟨rfl, e9⟩ := hp
  rw [e9] at hw
  clear e9 P9
  refine W.eq (g2 := F0 m 34 ls [.int (if (su_gs (1 : Int32) (1 : Int32) (1 : Int32) (1 : Int32)) = 0 then 1 else 0)]) rfl ?_
  obtain ⟨P34, eP34⟩ : ∃ pmv : pm_T, pmv = pm_up P h0 (md_o ma (su_gs (1 : Int32) (1 : Int32) (1 : Int32) (1 : Int32)) (nI n) al (nI t) so) := ⟨_, rfl⟩
  have hw : pm_W z D cl_w (pm_up P h0 (md_o ma (su_gs (1 : Int32) (1 : Int32) (1 : Int32) (1 : Int32)) (nI n) al (nI t) so)) s.heap H _ := hw
  rw [← eP34] at hw
  have mwP34 : md_W P34 ac h0 ma mv (su_gs (1 : Int32) (1 : Int32) (1 : Int32) (1 : Int32)) (nI n) al (nI t) so := by rw [eP34]; exact md_W.obj mw
  have mfP34 : md_F P P34 h0 ma := by rw [eP34]; exact md_F.obj md_F.rf
  refine W.eq (g2 := F0 m 34 ls [.int (1 : Int32)]) (by rw [show (if (su_gs (1 : Int32) (1 : Int32) (1 : Int32) (1 : Int32)) = 0 then 1 else 0) = (1 : Int32) from by decide]) ?_
  refine lv_if_ne (tgt := 39) hx hb dd_M_overdue_34 (by decide) (fun c35 => ?_) (fun c35 => absurd c35 (by decide))
  refine lv_iconst (v := (-1)) hx hb dd_M_overdue_39 (by decide) ?_
  refine lv_istore (lv' := [(4, .int (-1 : Int32)), (0, .ref h0), (1, .int p1), (2, .int p2), (3, .int (nI i9))]) hx hb dd_M_overdue_40 hl (by decide) rfl (fun ls hl => ?_)
  refine lv_iconst (v := 0) hx hb dd_M_overdue_42 (by decide) ?_
  refine lv_istore (lv' := [(5, .int (0 : Int32)), (4, .int (-1 : Int32)), (0, .ref h0), (1, .int p1), (2, .int p2), (3, .int (nI i9))]) hx hb dd_M_overdue_43 hl (by decide) rfl (fun ls hl => ?_)
  have lp : ∀ (n9 k : Nat), k + n9 = i9 + 1 → (k = 0 ∨ ¬ (su_pk (fun j => su_oz (su_lat mv t p1 p2 j)) (fun j => su_lat mv t p1 p2 j) n k) = none) → ∀ (o5 : Int32) (H : Heap) (locs : List Loc) (ls : Array Slot), o5 = su_oi (su_pk (fun j => su_oz (su_lat mv t p1 p2 j)) (fun j => su_lat mv t p1 p2 j) n k) → pm_W z D cl_w P34 s.heap H locs → lv_has ls 10 [(5, .int (nI k)), (4, .int o5), (0, .ref h0), (1, .int p1), (2, .int p2), (3, .int (nI i9))] → W p l e ({ frames := 3, cells := 0, slots := 0, locals := 90 } : Room) s m ([.ref h0, .int p1, .int p2, .int (nI i9)] : List Value).toArray below meth c H locs 0 0 (MQ below (cx_Q z D (fun v P' => v = some (.int (su_oi (su_kt (fun j => su_oz (su_lat mv t p1 p2 j)) (fun j => su_lat mv t p1 p2 j) n i9))) ∧ md_W P' ac h0 ma mv 0 (nI n) al (nI t) so ∧ md_F P P' h0 ma)) ([.ref h0, .int p1, .int p2, .int (nI i9)] : List Value).toArray s ({ frames := 3, cells := 0, slots := 0, locals := 90 } : Room).cells ({ frames := 3, cells := 0, slots := 0, locals := 90 } : Room).slots (pm_A z)) (F0 m 45 ls []) := by
    intro n9
    induction n9 with
    | zero =>
      intro k hk hrel o5 H locs ls e5 hw hl
      have hk : k = i9 + 1 := by omega
      have hk2 := hov i9 (by rw [hk] at hrel; exact hrel.resolve_left (by omega))
      refine lv_iload hx hb dd_M_overdue_45 (lv_at hl 0 rfl) ?_
      refine lv_iload_n hx hb dd_M_overdue_47 rfl (lv_at hl 5 rfl) ?_
      refine lv_icmp_gt (tgt := 179) hx hb dd_M_overdue_48 (by decide) (fun c36 => ?_) (fun c36 => absurd (by rw [hk]; exact nI_lt (by omega) (by omega)) c36)
      refine lv_iload hx hb dd_M_overdue_179 (lv_at hl 1 rfl) ?_
      refine cx_iret (v := o5) hx hb hr rfl hlocks hw dd_M_overdue_181 (by decide) (by decide) ?_
      exact ⟨by rw [e5, hk]; rfl, mwP34, mfP34⟩
    | succ n9 ih =>
      intro k hk hrel o5 H locs ls e5 hw hl
      have hki : k ≤ i9 := by omega
      have hstep := su_pk_nx hrel
      have inner : ∀ (m9 h : Nat), h + m9 = n → ∀ (o7 : Int32) (H : Heap) (locs : List Loc) (ls : Array Slot), o7 = su_oi (su_nx (fun j => su_oz (su_lat mv t p1 p2 j)) (fun j => su_lat mv t p1 p2 j) (su_pk (fun j => su_oz (su_lat mv t p1 p2 j)) (fun j => su_lat mv t p1 p2 j) n k) h) → pm_W z D cl_w P34 s.heap H locs → lv_has ls 10 [(7, .int (nI h)), (6, .int o7), (5, .int (nI k)), (4, .int o5), (0, .ref h0), (1, .int p1), (2, .int p2), (3, .int (nI i9))] → W p l e ({ frames := 3, cells := 0, slots := 0, locals := 90 } : Room) s m ([.ref h0, .int p1, .int p2, .int (nI i9)] : List Value).toArray below meth c H locs 0 0 (MQ below (cx_Q z D (fun v P' => v = some (.int (su_oi (su_kt (fun j => su_oz (su_lat mv t p1 p2 j)) (fun j => su_lat mv t p1 p2 j) n i9))) ∧ md_W P' ac h0 ma mv 0 (nI n) al (nI t) so ∧ md_F P P' h0 ma)) ([.ref h0, .int p1, .int p2, .int (nI i9)] : List Value).toArray s ({ frames := 3, cells := 0, slots := 0, locals := 90 } : Room).cells ({ frames := 3, cells := 0, slots := 0, locals := 90 } : Room).slots (pm_A z)) (F0 m 57 ls []) := by
        intro m9
        induction m9 with
        | zero =>
          intro h hh o7 H locs ls e7 hw hl
          have hh : h = n := by omega
          rw [hh, ← hstep] at e7
          rcases hq : (su_kt (fun j => su_oz (su_lat mv t p1 p2 j)) (fun j => su_lat mv t p1 p2 j) n k) with _ | x
          · rw [hq] at e7
            refine lv_iload hx hb dd_M_overdue_57 (lv_at hl 0 rfl) ?_
            refine lv_aload_n hx hb dd_M_overdue_59 rfl (lv_at hl 4 rfl) ?_
            refine pm_get (ci := 6) (C := cn_M) (T := cf_M) (N := 23) (v := .int (nI n)) hx hb hg gu_M hown hK.2.1 hw mwP34.1 rfl 1 (by decide) (hg _ gf_M_69) (fun _ h9 => h9) rfl dd_M_overdue_60 ?_
            refine lv_icmp_ge (tgt := 162) hx hb dd_M_overdue_63 (by decide) (fun c37 => ?_) (fun c37 => absurd (by rw [hh]; exact Int32.le_refl _) c37)
            refine lv_iload hx hb dd_M_overdue_162 (lv_at hl 1 rfl) ?_
            refine lv_if_ge (tgt := 169) hx hb dd_M_overdue_164 (by decide) (fun c38 => absurd c38 (by rw [e7]; decide)) (fun c38 => ?_)
            refine lv_iconst (v := (-1)) hx hb dd_M_overdue_167 (by decide) ?_
            refine cx_iret (v := (-1 : Int32)) hx hb hr rfl hlocks hw dd_M_overdue_168 (by decide) (by decide) ?_
            exact ⟨by rw [show i9 = k + (i9 - k) from by omega, su_kt_none hq]; rfl, mwP34, mfP34⟩
          · rw [hq] at e7
            have hk2 := hov k (by rw [hq]; exact fun h8 => nomatch h8)
            have hxn : x < n := su_pk_lt (k := k + 1) hq
            refine lv_iload hx hb dd_M_overdue_57 (lv_at hl 0 rfl) ?_
            refine lv_aload_n hx hb dd_M_overdue_59 rfl (lv_at hl 4 rfl) ?_
            refine pm_get (ci := 6) (C := cn_M) (T := cf_M) (N := 23) (v := .int (nI n)) hx hb hg gu_M hown hK.2.1 hw mwP34.1 rfl 1 (by decide) (hg _ gf_M_69) (fun _ h9 => h9) rfl dd_M_overdue_60 ?_
            refine lv_icmp_ge (tgt := 162) hx hb dd_M_overdue_63 (by decide) (fun c39 => ?_) (fun c39 => absurd (by rw [hh]; exact Int32.le_refl _) c39)
            refine lv_iload hx hb dd_M_overdue_162 (lv_at hl 1 rfl) ?_
            refine lv_if_ge (tgt := 169) hx hb dd_M_overdue_164 (by decide) (fun c40 => ?_) (fun c40 => absurd (by rw [e7]; exact nI_pos' (by omega)) c40)
            refine lv_iload hx hb dd_M_overdue_169 (lv_at hl 1 rfl) ?_
            refine lv_istore (lv' := [(4, .int o7), (7, .int (nI h)), (6, .int o7), (5, .int (nI k)), (0, .ref h0), (1, .int p1), (2, .int p2), (3, .int (nI i9))]) hx hb dd_M_overdue_171 hl (by decide) rfl (fun ls hl => ?_)
            obtain ⟨x41, ex41⟩ : ∃ y : Int32, y = (nI k) + 1 := ⟨_, rfl⟩
            refine lv_iinc (v := x41) (lv' := [(5, .int x41), (4, .int o7), (7, .int (nI h)), (6, .int o7), (0, .ref h0), (1, .int p1), (2, .int p2), (3, .int (nI i9))]) hx hb dd_M_overdue_173 hl (k := 3) rfl (by rw [ex41]; rfl) (by decide) rfl (fun ls hl => ?_)
            refine lv_goto (tgt := 45) hx hb dd_M_overdue_176 (by decide) ?_
            have hi7 : x41 = nI (k + 1) := by rw [ex41]; exact nI_1 k
            rw [hi7] at hl
            exact ih (k + 1) (by omega) (.inr (by show ¬ (su_kt (fun j => su_oz (su_lat mv t p1 p2 j)) (fun j => su_lat mv t p1 p2 j) n k) = none; rw [hq]; exact fun h8 => nomatch h8)) o7 H _ ls (by rw [e7]; show su_oi (some x) = su_oi (su_kt (fun j => su_oz (su_lat mv t p1 p2 j)) (fun j => su_lat mv t p1 p2 j) n k); rw [hq]) hw (lv_sub hl [0, 1, 4, 5, 6, 7] rfl)
        | succ m9 jh =>
          intro h hh o7 H locs ls e7 hw hl
          have hhn : h < n := by omega
          rcases hl5 : (su_pk (fun j => su_oz (su_lat mv t p1 p2 j)) (fun j => su_lat mv t p1 p2 j) n k) with _ | l5
          · skip
            rcases hq7 : (su_nx (fun j => su_oz (su_lat mv t p1 p2 j)) (fun j => su_lat mv t p1 p2 j) (su_pk (fun j => su_oz (su_lat mv t p1 p2 j)) (fun j => su_lat mv t p1 p2 j) n k) h) with _ | x7
            · skip
              have h5 : o5 = -1 := by rw [e5, hl5]; rfl
              have h7 : o7 = -1 := by rw [e7, hq7]; rfl
              rw [h5, h7] at hl
              rw [hl5] at hq7
              refine lv_iload hx hb dd_M_overdue_57 (lv_at hl 0 rfl) ?_
              refine lv_aload_n hx hb dd_M_overdue_59 rfl (lv_at hl 4 rfl) ?_
              refine pm_get (ci := 6) (C := cn_M) (T := cf_M) (N := 23) (v := .int (nI n)) hx hb hg gu_M hown hK.2.1 hw mwP34.1 rfl 1 (by decide) (hg _ gf_M_69) (fun _ h9 => h9) rfl dd_M_overdue_60 ?_
              refine lv_icmp_ge (tgt := 162) hx hb dd_M_overdue_63 (by decide) (fun c42 => absurd c42 (nI_ge hhn (by omega))) (fun c42 => ?_)
              refine lv_aload_n hx hb dd_M_overdue_66 rfl (lv_at hl 4 rfl) ?_
              refine lv_iload hx hb dd_M_overdue_67 (lv_at hl 0 rfl) ?_
              refine lv_iload_n hx hb dd_M_overdue_69 rfl (lv_at hl 5 rfl) ?_
              refine lv_iload_n hx hb dd_M_overdue_70 rfl (lv_at hl 6 rfl) ?_
              refine cx_after (cx_rV (n := 3) (As := [.int (nI h), .int p1, .int p2]) (rest := []) ⟨hx, hb, hml, hown, hg⟩ (c_M_late l z D ac sa P34 h0 ma mv (su_gs (1 : Int32) (1 : Int32) (1 : Int32) (1 : Int32)) al so n t hn40 ht100 h p1 p2 mwP34) (cx_gv gm_M_147 gi_M_late gs_M_late gn_M gc_M_late) (by decide +kernel) ⟨by decide, by decide⟩ hK hw mwP34.1 rfl rfl hl.1 rfl (Nat.le_of_ble_eq_true rfl) dd_M_overdue_71 ⟨by decide, by decide⟩) hw (fun v9 P9 H locs hp hw => ?_)
              obtain ⟨rfl, e9⟩ := hp
              rw [e9] at hw
              clear e9 P9
              refine W.eq (g2 := F0 m 74 ls [.int (su_lat mv t p1 p2 h)]) rfl ?_
              refine lv_istore (lv' := [(8, .int (su_lat mv t p1 p2 h)), (7, .int (nI h)), (6, .int (-1 : Int32)), (5, .int (nI k)), (4, .int (-1 : Int32)), (0, .ref h0), (1, .int p1), (2, .int p2), (3, .int (nI i9))]) hx hb dd_M_overdue_74 hl (by decide) rfl (fun ls hl => ?_)
              refine lv_iload hx hb dd_M_overdue_76 (lv_at hl 0 rfl) ?_
              refine lv_if_ge (tgt := 84) hx hb dd_M_overdue_78 (by decide) (fun c43 => ?_) (fun c43 => ?_)
              · skip
                refine lv_iload hx hb dd_M_overdue_84 (lv_at hl 4 rfl) ?_
                refine lv_if_lt (tgt := 122) hx hb dd_M_overdue_86 (by decide) (fun c44 => ?_) (fun c44 => absurd (by decide) c44)
                refine lv_iconst (v := 1) hx hb dd_M_overdue_122 (by decide) ?_
                refine lv_goto (tgt := 127) hx hb dd_M_overdue_123 (by decide) ?_
                refine lv_istore (lv' := [(9, .int (1 : Int32)), (8, .int (su_lat mv t p1 p2 h)), (7, .int (nI h)), (6, .int (-1 : Int32)), (5, .int (nI k)), (4, .int (-1 : Int32)), (0, .ref h0), (1, .int p1), (2, .int p2), (3, .int (nI i9))]) hx hb dd_M_overdue_127 hl (by decide) rfl (fun ls hl => ?_)
                refine lv_iload hx hb dd_M_overdue_129 (lv_at hl 0 rfl) ?_
                refine lv_if_eq (tgt := 156) hx hb dd_M_overdue_131 (by decide) (fun c45 => absurd c45 (by decide)) (fun c45 => ?_)
                refine lv_iload hx hb dd_M_overdue_134 (lv_at hl 3 rfl) ?_
                refine lv_if_lt (tgt := 152) hx hb dd_M_overdue_136 (by decide) (fun c46 => ?_) (fun c46 => absurd (by decide) c46)
                refine lv_iload hx hb dd_M_overdue_152 (lv_at hl 2 rfl) ?_
                refine lv_istore (lv' := [(6, .int (nI h)), (9, .int (1 : Int32)), (8, .int (su_lat mv t p1 p2 h)), (7, .int (nI h)), (5, .int (nI k)), (4, .int (-1 : Int32)), (0, .ref h0), (1, .int p1), (2, .int p2), (3, .int (nI i9))]) hx hb dd_M_overdue_154 hl (by decide) rfl (fun ls hl => ?_)
                obtain ⟨x47, ex47⟩ : ∃ y : Int32, y = (nI h) + 1 := ⟨_, rfl⟩
                refine lv_iinc (v := x47) (lv' := [(7, .int x47), (6, .int (nI h)), (9, .int (1 : Int32)), (8, .int (su_lat mv t p1 p2 h)), (5, .int (nI k)), (4, .int (-1 : Int32)), (0, .ref h0), (1, .int p1), (2, .int p2), (3, .int (nI i9))]) hx hb dd_M_overdue_156 hl (k := 3) rfl (by rw [ex47]; rfl) (by decide) rfl (fun ls hl => ?_)
                refine lv_goto (tgt := 57) hx hb dd_M_overdue_159 (by decide) ?_
                have hi7 : x47 = nI (h + 1) := by rw [ex47]; exact nI_1 h
                rw [hi7] at hl
                exact jh (h + 1) (by omega) (nI h) H _ ls (by simp only [su_nx, su_bh, hl5, hq7, if_neg (su_oz1 c43), if_true, Bool.false_eq_true, if_false]; rfl) hw (lv_sub (show lv_has ls 10 [(7, .int (nI (h + 1))), (6, .int (nI h)), (9, .int (1 : Int32)), (8, .int (su_lat mv t p1 p2 h)), (5, .int (nI k)), (4, .int o5), (0, .ref h0), (1, .int p1), (2, .int p2), (3, .int (nI i9))] from by rw [h5] ; exact hl) [0, 1, 4, 5, 6, 7, 8, 9] rfl)
              · skip
                refine lv_goto (tgt := 156) hx hb dd_M_overdue_81 (by decide) ?_
                obtain ⟨x48, ex48⟩ : ∃ y : Int32, y = (nI h) + 1 := ⟨_, rfl⟩
                refine lv_iinc (v := x48) (lv' := [(7, .int x48), (8, .int (su_lat mv t p1 p2 h)), (6, .int (-1 : Int32)), (5, .int (nI k)), (4, .int (-1 : Int32)), (0, .ref h0), (1, .int p1), (2, .int p2), (3, .int (nI i9))]) hx hb dd_M_overdue_156 hl (k := 1) rfl (by rw [ex48]; rfl) (by decide) rfl (fun ls hl => ?_)
                refine lv_goto (tgt := 57) hx hb dd_M_overdue_159 (by decide) ?_
                have hi7 : x48 = nI (h + 1) := by rw [ex48]; exact nI_1 h
                rw [hi7] at hl
                exact jh (h + 1) (by omega) (-1 : Int32) H _ ls (by simp only [su_nx, su_bh, hl5, hq7, if_pos (su_oz0 c43), if_true, Bool.false_eq_true, if_false]; rfl) hw (lv_sub (show lv_has ls 10 [(7, .int (nI (h + 1))), (8, .int (su_lat mv t p1 p2 h)), (6, .int (-1 : Int32)), (5, .int (nI k)), (4, .int o5), (0, .ref h0), (1, .int p1), (2, .int p2), (3, .int (nI i9))] from by rw [h5] ; exact hl) [0, 2, 3, 4, 5, 6, 7, 8] rfl)
            · skip
              have h5 : o5 = -1 := by rw [e5, hl5]; rfl
              have h7 : o7 = nI x7 := by rw [e7, hq7]; rfl
              have hx7 : x7 < h := su_nx_lt hq7
              rw [h5, h7] at hl
              rw [hl5] at hq7
              refine lv_iload hx hb dd_M_overdue_57 (lv_at hl 0 rfl) ?_
              refine lv_aload_n hx hb dd_M_overdue_59 rfl (lv_at hl 4 rfl) ?_
              refine pm_get (ci := 6) (C := cn_M) (T := cf_M) (N := 23) (v := .int (nI n)) hx hb hg gu_M hown hK.2.1 hw mwP34.1 rfl 1 (by decide) (hg _ gf_M_69) (fun _ h9 => h9) rfl dd_M_overdue_60 ?_
              refine lv_icmp_ge (tgt := 162) hx hb dd_M_overdue_63 (by decide) (fun c49 => absurd c49 (nI_ge hhn (by omega))) (fun c49 => ?_)
              refine lv_aload_n hx hb dd_M_overdue_66 rfl (lv_at hl 4 rfl) ?_
              refine lv_iload hx hb dd_M_overdue_67 (lv_at hl 0 rfl) ?_
              refine lv_iload_n hx hb dd_M_overdue_69 rfl (lv_at hl 5 rfl) ?_
              refine lv_iload_n hx hb dd_M_overdue_70 rfl (lv_at hl 6 rfl) ?_
              refine cx_after (cx_rV (n := 3) (As := [.int (nI h), .int p1, .int p2]) (rest := []) ⟨hx, hb, hml, hown, hg⟩ (c_M_late l z D ac sa P34 h0 ma mv (su_gs (1 : Int32) (1 : Int32) (1 : Int32) (1 : Int32)) al so n t hn40 ht100 h p1 p2 mwP34) (cx_gv gm_M_147 gi_M_late gs_M_late gn_M gc_M_late) (by decide +kernel) ⟨by decide, by decide⟩ hK hw mwP34.1 rfl rfl hl.1 rfl (Nat.le_of_ble_eq_true rfl) dd_M_overdue_71 ⟨by decide, by decide⟩) hw (fun v9 P9 H locs hp hw => ?_)
              obtain ⟨rfl, e9⟩ := hp
              rw [e9] at hw
              clear e9 P9
              refine W.eq (g2 := F0 m 74 ls [.int (su_lat mv t p1 p2 h)]) rfl ?_
              refine lv_istore (lv' := [(8, .int (su_lat mv t p1 p2 h)), (7, .int (nI h)), (6, .int (nI x7)), (5, .int (nI k)), (4, .int (-1 : Int32)), (0, .ref h0), (1, .int p1), (2, .int p2), (3, .int (nI i9))]) hx hb dd_M_overdue_74 hl (by decide) rfl (fun ls hl => ?_)
              refine lv_iload hx hb dd_M_overdue_76 (lv_at hl 0 rfl) ?_
              refine lv_if_ge (tgt := 84) hx hb dd_M_overdue_78 (by decide) (fun c50 => ?_) (fun c50 => ?_)
              · skip
                refine lv_iload hx hb dd_M_overdue_84 (lv_at hl 4 rfl) ?_
                refine lv_if_lt (tgt := 122) hx hb dd_M_overdue_86 (by decide) (fun c51 => ?_) (fun c51 => absurd (by decide) c51)
                refine lv_iconst (v := 1) hx hb dd_M_overdue_122 (by decide) ?_
                refine lv_goto (tgt := 127) hx hb dd_M_overdue_123 (by decide) ?_
                refine lv_istore (lv' := [(9, .int (1 : Int32)), (8, .int (su_lat mv t p1 p2 h)), (7, .int (nI h)), (6, .int (nI x7)), (5, .int (nI k)), (4, .int (-1 : Int32)), (0, .ref h0), (1, .int p1), (2, .int p2), (3, .int (nI i9))]) hx hb dd_M_overdue_127 hl (by decide) rfl (fun ls hl => ?_)
                refine lv_iload hx hb dd_M_overdue_129 (lv_at hl 0 rfl) ?_
                refine lv_if_eq (tgt := 156) hx hb dd_M_overdue_131 (by decide) (fun c52 => absurd c52 (by decide)) (fun c52 => ?_)
                refine lv_iload hx hb dd_M_overdue_134 (lv_at hl 3 rfl) ?_
                refine lv_if_lt (tgt := 152) hx hb dd_M_overdue_136 (by decide) (fun c53 => absurd c53 (nI_pos (by omega))) (fun c53 => ?_)
                refine lv_iload hx hb dd_M_overdue_139 (lv_at hl 1 rfl) ?_
                refine lv_aload_n hx hb dd_M_overdue_141 rfl (lv_at hl 6 rfl) ?_
                refine lv_iload hx hb dd_M_overdue_142 (lv_at hl 3 rfl) ?_
                refine lv_iload_n hx hb dd_M_overdue_144 rfl (lv_at hl 7 rfl) ?_
                refine lv_iload_n hx hb dd_M_overdue_145 rfl (lv_at hl 8 rfl) ?_
                refine cx_after (cx_rV (n := 3) (As := [.int (nI x7), .int p1, .int p2]) (rest := [.int (su_lat mv t p1 p2 h)]) ⟨hx, hb, hml, hown, hg⟩ (c_M_late l z D ac sa P34 h0 ma mv (su_gs (1 : Int32) (1 : Int32) (1 : Int32) (1 : Int32)) al so n t hn40 ht100 x7 p1 p2 mwP34) (cx_gv gm_M_147 gi_M_late gs_M_late gn_M gc_M_late) (by decide +kernel) ⟨by decide, by decide⟩ hK hw mwP34.1 rfl rfl hl.1 rfl (Nat.le_of_ble_eq_true rfl) dd_M_overdue_146 ⟨by decide, by decide⟩) hw (fun v9 P9 H locs hp hw => ?_)
                obtain ⟨rfl, e9⟩ := hp
                rw [e9] at hw
                clear e9 P9
                refine W.eq (g2 := F0 m 149 ls [.int (su_lat mv t p1 p2 x7), .int (su_lat mv t p1 p2 h)]) rfl ?_
                refine lv_icmp_ge (tgt := 156) hx hb dd_M_overdue_149 (by decide) (fun c54 => ?_) (fun c54 => ?_)
                · skip
                  obtain ⟨x55, ex55⟩ : ∃ y : Int32, y = (nI h) + 1 := ⟨_, rfl⟩
                  refine lv_iinc (v := x55) (lv' := [(7, .int x55), (9, .int (1 : Int32)), (8, .int (su_lat mv t p1 p2 h)), (6, .int (nI x7)), (5, .int (nI k)), (4, .int (-1 : Int32)), (0, .ref h0), (1, .int p1), (2, .int p2), (3, .int (nI i9))]) hx hb dd_M_overdue_156 hl (k := 2) rfl (by rw [ex55]; rfl) (by decide) rfl (fun ls hl => ?_)
                  refine lv_goto (tgt := 57) hx hb dd_M_overdue_159 (by decide) ?_
                  have hi7 : x55 = nI (h + 1) := by rw [ex55]; exact nI_1 h
                  rw [hi7] at hl
                  exact jh (h + 1) (by omega) (nI x7) H _ ls (by simp only [su_nx, su_bh, hl5, hq7, if_neg (su_oz1 c50), if_pos c54, if_true, Bool.false_eq_true, if_false]; rfl) hw (lv_sub (show lv_has ls 10 [(7, .int (nI (h + 1))), (9, .int (1 : Int32)), (8, .int (su_lat mv t p1 p2 h)), (6, .int (nI x7)), (5, .int (nI k)), (4, .int o5), (0, .ref h0), (1, .int p1), (2, .int p2), (3, .int (nI i9))] from by rw [h5] ; exact hl) [0, 3, 4, 5, 6, 7, 8, 9] rfl)
                · skip
                  refine lv_iload hx hb dd_M_overdue_152 (lv_at hl 2 rfl) ?_
                  refine lv_istore (lv' := [(6, .int (nI h)), (9, .int (1 : Int32)), (8, .int (su_lat mv t p1 p2 h)), (7, .int (nI h)), (5, .int (nI k)), (4, .int (-1 : Int32)), (0, .ref h0), (1, .int p1), (2, .int p2), (3, .int (nI i9))]) hx hb dd_M_overdue_154 hl (by decide) rfl (fun ls hl => ?_)
                  obtain ⟨x56, ex56⟩ : ∃ y : Int32, y = (nI h) + 1 := ⟨_, rfl⟩
                  refine lv_iinc (v := x56) (lv' := [(7, .int x56), (6, .int (nI h)), (9, .int (1 : Int32)), (8, .int (su_lat mv t p1 p2 h)), (5, .int (nI k)), (4, .int (-1 : Int32)), (0, .ref h0), (1, .int p1), (2, .int p2), (3, .int (nI i9))]) hx hb dd_M_overdue_156 hl (k := 3) rfl (by rw [ex56]; rfl) (by decide) rfl (fun ls hl => ?_)
                  refine lv_goto (tgt := 57) hx hb dd_M_overdue_159 (by decide) ?_
                  have hi7 : x56 = nI (h + 1) := by rw [ex56]; exact nI_1 h
                  rw [hi7] at hl
                  exact jh (h + 1) (by omega) (nI h) H _ ls (by simp only [su_nx, su_bh, hl5, hq7, if_neg (su_oz1 c50), if_neg c54, if_true, Bool.false_eq_true, if_false]; rfl) hw (lv_sub (show lv_has ls 10 [(7, .int (nI (h + 1))), (6, .int (nI h)), (9, .int (1 : Int32)), (8, .int (su_lat mv t p1 p2 h)), (5, .int (nI k)), (4, .int o5), (0, .ref h0), (1, .int p1), (2, .int p2), (3, .int (nI i9))] from by rw [h5] ; exact hl) [0, 1, 4, 5, 6, 7, 8, 9] rfl)
              · skip
                refine lv_goto (tgt := 156) hx hb dd_M_overdue_81 (by decide) ?_
                obtain ⟨x57, ex57⟩ : ∃ y : Int32, y = (nI h) + 1 := ⟨_, rfl⟩
                refine lv_iinc (v := x57) (lv' := [(7, .int x57), (8, .int (su_lat mv t p1 p2 h)), (6, .int (nI x7)), (5, .int (nI k)), (4, .int (-1 : Int32)), (0, .ref h0), (1, .int p1), (2, .int p2), (3, .int (nI i9))]) hx hb dd_M_overdue_156 hl (k := 1) rfl (by rw [ex57]; rfl) (by decide) rfl (fun ls hl => ?_)
                refine lv_goto (tgt := 57) hx hb dd_M_overdue_159 (by decide) ?_
                have hi7 : x57 = nI (h + 1) := by rw [ex57]; exact nI_1 h
                rw [hi7] at hl
                exact jh (h + 1) (by omega) (nI x7) H _ ls (by simp only [su_nx, su_bh, hl5, hq7, if_pos (su_oz0 c50), if_true, Bool.false_eq_true, if_false]; rfl) hw (lv_sub (show lv_has ls 10 [(7, .int (nI (h + 1))), (8, .int (su_lat mv t p1 p2 h)), (6, .int (nI x7)), (5, .int (nI k)), (4, .int o5), (0, .ref h0), (1, .int p1), (2, .int p2), (3, .int (nI i9))] from by rw [h5] ; exact hl) [0, 2, 3, 4, 5, 6, 7, 8] rfl)
          · skip
            rcases hq7 : (su_nx (fun j => su_oz (su_lat mv t p1 p2 j)) (fun j => su_lat mv t p1 p2 j) (su_pk (fun j => su_oz (su_lat mv t p1 p2 j)) (fun j => su_lat mv t p1 p2 j) n k) h) with _ | x7
            · skip
              have h5 : o5 = nI l5 := by rw [e5, hl5]; rfl
              have hl5n : l5 < n := su_pk_lt hl5
              have h7 : o7 = -1 := by rw [e7, hq7]; rfl
              rw [h5, h7] at hl
              rw [hl5] at hq7
              refine lv_iload hx hb dd_M_overdue_57 (lv_at hl 0 rfl) ?_
              refine lv_aload_n hx hb dd_M_overdue_59 rfl (lv_at hl 4 rfl) ?_
              refine pm_get (ci := 6) (C := cn_M) (T := cf_M) (N := 23) (v := .int (nI n)) hx hb hg gu_M hown hK.2.1 hw mwP34.1 rfl 1 (by decide) (hg _ gf_M_69) (fun _ h9 => h9) rfl dd_M_overdue_60 ?_
              refine lv_icmp_ge (tgt := 162) hx hb dd_M_overdue_63 (by decide) (fun c58 => absurd c58 (nI_ge hhn (by omega))) (fun c58 => ?_)
              refine lv_aload_n hx hb dd_M_overdue_66 rfl (lv_at hl 4 rfl) ?_
              refine lv_iload hx hb dd_M_overdue_67 (lv_at hl 0 rfl) ?_
              refine lv_iload_n hx hb dd_M_overdue_69 rfl (lv_at hl 5 rfl) ?_
              refine lv_iload_n hx hb dd_M_overdue_70 rfl (lv_at hl 6 rfl) ?_
              refine cx_after (cx_rV (n := 3) (As := [.int (nI h), .int p1, .int p2]) (rest := []) ⟨hx, hb, hml, hown, hg⟩ (c_M_late l z D ac sa P34 h0 ma mv (su_gs (1 : Int32) (1 : Int32) (1 : Int32) (1 : Int32)) al so n t hn40 ht100 h p1 p2 mwP34) (cx_gv gm_M_147 gi_M_late gs_M_late gn_M gc_M_late) (by decide +kernel) ⟨by decide, by decide⟩ hK hw mwP34.1 rfl rfl hl.1 rfl (Nat.le_of_ble_eq_true rfl) dd_M_overdue_71 ⟨by decide, by decide⟩) hw (fun v9 P9 H locs hp hw => ?_)
              obtain ⟨rfl, e9⟩ := hp
              rw [e9] at hw
              clear e9 P9
              refine W.eq (g2 := F0 m 74 ls [.int (su_lat mv t p1 p2 h)]) rfl ?_
              refine lv_istore (lv' := [(8, .int (su_lat mv t p1 p2 h)), (7, .int (nI h)), (6, .int (-1 : Int32)), (5, .int (nI k)), (4, .int (nI l5)), (0, .ref h0), (1, .int p1), (2, .int p2), (3, .int (nI i9))]) hx hb dd_M_overdue_74 hl (by decide) rfl (fun ls hl => ?_)
              refine lv_iload hx hb dd_M_overdue_76 (lv_at hl 0 rfl) ?_
              refine lv_if_ge (tgt := 84) hx hb dd_M_overdue_78 (by decide) (fun c59 => ?_) (fun c59 => ?_)
              · skip
                refine lv_iload hx hb dd_M_overdue_84 (lv_at hl 4 rfl) ?_
                refine lv_if_lt (tgt := 122) hx hb dd_M_overdue_86 (by decide) (fun c60 => absurd c60 (nI_pos (by omega))) (fun c60 => ?_)
                refine lv_iload hx hb dd_M_overdue_89 (lv_at hl 0 rfl) ?_
                refine lv_aload_n hx hb dd_M_overdue_91 rfl (lv_at hl 5 rfl) ?_
                refine lv_iload hx hb dd_M_overdue_92 (lv_at hl 4 rfl) ?_
                refine lv_iload_n hx hb dd_M_overdue_94 rfl (lv_at hl 6 rfl) ?_
                refine lv_iload_n hx hb dd_M_overdue_95 rfl (lv_at hl 7 rfl) ?_
                refine cx_after (cx_rV (n := 3) (As := [.int (nI l5), .int p1, .int p2]) (rest := [.int (su_lat mv t p1 p2 h)]) ⟨hx, hb, hml, hown, hg⟩ (c_M_late l z D ac sa P34 h0 ma mv (su_gs (1 : Int32) (1 : Int32) (1 : Int32) (1 : Int32)) al so n t hn40 ht100 l5 p1 p2 mwP34) (cx_gv gm_M_147 gi_M_late gs_M_late gn_M gc_M_late) (by decide +kernel) ⟨by decide, by decide⟩ hK hw mwP34.1 rfl rfl hl.1 rfl (Nat.le_of_ble_eq_true rfl) dd_M_overdue_96 ⟨by decide, by decide⟩) hw (fun v9 P9 H locs hp hw => ?_)
                obtain ⟨rfl, e9⟩ := hp
                rw [e9] at hw
                clear e9 P9
                refine W.eq (g2 := F0 m 99 ls [.int (su_lat mv t p1 p2 l5), .int (su_lat mv t p1 p2 h)]) rfl ?_
                refine lv_icmp_gt (tgt := 122) hx hb dd_M_overdue_99 (by decide) (fun c61 => ?_) (fun c61 => ?_)
                · skip
                  refine lv_iconst (v := 1) hx hb dd_M_overdue_122 (by decide) ?_
                  refine lv_goto (tgt := 127) hx hb dd_M_overdue_123 (by decide) ?_
                  refine lv_istore (lv' := [(9, .int (1 : Int32)), (8, .int (su_lat mv t p1 p2 h)), (7, .int (nI h)), (6, .int (-1 : Int32)), (5, .int (nI k)), (4, .int (nI l5)), (0, .ref h0), (1, .int p1), (2, .int p2), (3, .int (nI i9))]) hx hb dd_M_overdue_127 hl (by decide) rfl (fun ls hl => ?_)
                  refine lv_iload hx hb dd_M_overdue_129 (lv_at hl 0 rfl) ?_
                  refine lv_if_eq (tgt := 156) hx hb dd_M_overdue_131 (by decide) (fun c62 => absurd c62 (by decide)) (fun c62 => ?_)
                  refine lv_iload hx hb dd_M_overdue_134 (lv_at hl 3 rfl) ?_
                  refine lv_if_lt (tgt := 152) hx hb dd_M_overdue_136 (by decide) (fun c63 => ?_) (fun c63 => absurd (by decide) c63)
                  refine lv_iload hx hb dd_M_overdue_152 (lv_at hl 2 rfl) ?_
                  refine lv_istore (lv' := [(6, .int (nI h)), (9, .int (1 : Int32)), (8, .int (su_lat mv t p1 p2 h)), (7, .int (nI h)), (5, .int (nI k)), (4, .int (nI l5)), (0, .ref h0), (1, .int p1), (2, .int p2), (3, .int (nI i9))]) hx hb dd_M_overdue_154 hl (by decide) rfl (fun ls hl => ?_)
                  obtain ⟨x64, ex64⟩ : ∃ y : Int32, y = (nI h) + 1 := ⟨_, rfl⟩
                  refine lv_iinc (v := x64) (lv' := [(7, .int x64), (6, .int (nI h)), (9, .int (1 : Int32)), (8, .int (su_lat mv t p1 p2 h)), (5, .int (nI k)), (4, .int (nI l5)), (0, .ref h0), (1, .int p1), (2, .int p2), (3, .int (nI i9))]) hx hb dd_M_overdue_156 hl (k := 3) rfl (by rw [ex64]; rfl) (by decide) rfl (fun ls hl => ?_)
                  refine lv_goto (tgt := 57) hx hb dd_M_overdue_159 (by decide) ?_
                  have hi7 : x64 = nI (h + 1) := by rw [ex64]; exact nI_1 h
                  rw [hi7] at hl
                  rw [← h5] at hl
                  exact jh (h + 1) (by omega) (nI h) H _ ls (by simp only [su_nx, su_bh, hl5, hq7, if_neg (su_oz1 c59), if_pos c61, if_true, Bool.false_eq_true, if_false]; rfl) hw (lv_sub hl [0, 1, 4, 5, 6, 7, 8, 9] rfl)
                · skip
                  refine lv_iload hx hb dd_M_overdue_102 (lv_at hl 0 rfl) ?_
                  refine lv_aload_n hx hb dd_M_overdue_104 rfl (lv_at hl 5 rfl) ?_
                  refine lv_iload hx hb dd_M_overdue_105 (lv_at hl 4 rfl) ?_
                  refine lv_iload_n hx hb dd_M_overdue_107 rfl (lv_at hl 6 rfl) ?_
                  refine lv_iload_n hx hb dd_M_overdue_108 rfl (lv_at hl 7 rfl) ?_
                  refine cx_after (cx_rV (n := 3) (As := [.int (nI l5), .int p1, .int p2]) (rest := [.int (su_lat mv t p1 p2 h)]) ⟨hx, hb, hml, hown, hg⟩ (c_M_late l z D ac sa P34 h0 ma mv (su_gs (1 : Int32) (1 : Int32) (1 : Int32) (1 : Int32)) al so n t hn40 ht100 l5 p1 p2 mwP34) (cx_gv gm_M_147 gi_M_late gs_M_late gn_M gc_M_late) (by decide +kernel) ⟨by decide, by decide⟩ hK hw mwP34.1 rfl rfl hl.1 rfl (Nat.le_of_ble_eq_true rfl) dd_M_overdue_109 ⟨by decide, by decide⟩) hw (fun v9 P9 H locs hp hw => ?_)
                  obtain ⟨rfl, e9⟩ := hp
                  rw [e9] at hw
                  clear e9 P9
                  refine W.eq (g2 := F0 m 112 ls [.int (su_lat mv t p1 p2 l5), .int (su_lat mv t p1 p2 h)]) rfl ?_
                  refine lv_icmp_ne (tgt := 126) hx hb dd_M_overdue_112 (by decide) (fun c65 => ?_) (fun c65 => ?_)
                  · skip
                    refine lv_iconst (v := 0) hx hb dd_M_overdue_126 (by decide) ?_
                    refine lv_istore (lv' := [(9, .int (0 : Int32)), (8, .int (su_lat mv t p1 p2 h)), (7, .int (nI h)), (6, .int (-1 : Int32)), (5, .int (nI k)), (4, .int (nI l5)), (0, .ref h0), (1, .int p1), (2, .int p2), (3, .int (nI i9))]) hx hb dd_M_overdue_127 hl (by decide) rfl (fun ls hl => ?_)
                    refine lv_iload hx hb dd_M_overdue_129 (lv_at hl 0 rfl) ?_
                    refine lv_if_eq (tgt := 156) hx hb dd_M_overdue_131 (by decide) (fun c66 => ?_) (fun c66 => absurd (by decide) c66)
                    obtain ⟨x67, ex67⟩ : ∃ y : Int32, y = (nI h) + 1 := ⟨_, rfl⟩
                    refine lv_iinc (v := x67) (lv' := [(7, .int x67), (9, .int (0 : Int32)), (8, .int (su_lat mv t p1 p2 h)), (6, .int (-1 : Int32)), (5, .int (nI k)), (4, .int (nI l5)), (0, .ref h0), (1, .int p1), (2, .int p2), (3, .int (nI i9))]) hx hb dd_M_overdue_156 hl (k := 2) rfl (by rw [ex67]; rfl) (by decide) rfl (fun ls hl => ?_)
                    refine lv_goto (tgt := 57) hx hb dd_M_overdue_159 (by decide) ?_
                    have hi7 : x67 = nI (h + 1) := by rw [ex67]; exact nI_1 h
                    rw [hi7] at hl
                    rw [← h5] at hl
                    exact jh (h + 1) (by omega) (-1 : Int32) H _ ls (by simp only [su_nx, su_bh, hl5, hq7, if_neg (su_oz1 c59), if_neg c61, if_neg c65, if_true, Bool.false_eq_true, if_false]; rfl) hw (lv_sub hl [0, 3, 4, 5, 6, 7, 8, 9] rfl)
                  · skip
                    refine lv_iload hx hb dd_M_overdue_115 (lv_at hl 1 rfl) ?_
                    refine lv_iload hx hb dd_M_overdue_117 (lv_at hl 4 rfl) ?_
                    refine lv_icmp_le (tgt := 126) hx hb dd_M_overdue_119 (by decide) (fun c68 => ?_) (fun c68 => ?_)
                    · skip
                      refine lv_iconst (v := 0) hx hb dd_M_overdue_126 (by decide) ?_
                      refine lv_istore (lv' := [(9, .int (0 : Int32)), (8, .int (su_lat mv t p1 p2 h)), (7, .int (nI h)), (6, .int (-1 : Int32)), (5, .int (nI k)), (4, .int (nI l5)), (0, .ref h0), (1, .int p1), (2, .int p2), (3, .int (nI i9))]) hx hb dd_M_overdue_127 hl (by decide) rfl (fun ls hl => ?_)
                      refine lv_iload hx hb dd_M_overdue_129 (lv_at hl 0 rfl) ?_
                      refine lv_if_eq (tgt := 156) hx hb dd_M_overdue_131 (by decide) (fun c69 => ?_) (fun c69 => absurd (by decide) c69)
                      obtain ⟨x70, ex70⟩ : ∃ y : Int32, y = (nI h) + 1 := ⟨_, rfl⟩
                      refine lv_iinc (v := x70) (lv' := [(7, .int x70), (9, .int (0 : Int32)), (8, .int (su_lat mv t p1 p2 h)), (6, .int (-1 : Int32)), (5, .int (nI k)), (4, .int (nI l5)), (0, .ref h0), (1, .int p1), (2, .int p2), (3, .int (nI i9))]) hx hb dd_M_overdue_156 hl (k := 2) rfl (by rw [ex70]; rfl) (by decide) rfl (fun ls hl => ?_)
                      refine lv_goto (tgt := 57) hx hb dd_M_overdue_159 (by decide) ?_
                      have hi7 : x70 = nI (h + 1) := by rw [ex70]; exact nI_1 h
                      rw [hi7] at hl
                      rw [← h5] at hl
                      rw [nI_leI (by omega) (by omega)] at c68
                      exact jh (h + 1) (by omega) (-1 : Int32) H _ ls (by simp only [su_nx, su_bh, hl5, hq7, if_neg (su_oz1 c59), if_neg c61, if_pos c65, if_pos c68, if_true, Bool.false_eq_true, if_false]; rfl) hw (lv_sub hl [0, 3, 4, 5, 6, 7, 8, 9] rfl)
                    · skip
                      refine lv_iconst (v := 1) hx hb dd_M_overdue_122 (by decide) ?_
                      refine lv_goto (tgt := 127) hx hb dd_M_overdue_123 (by decide) ?_
                      refine lv_istore (lv' := [(9, .int (1 : Int32)), (8, .int (su_lat mv t p1 p2 h)), (7, .int (nI h)), (6, .int (-1 : Int32)), (5, .int (nI k)), (4, .int (nI l5)), (0, .ref h0), (1, .int p1), (2, .int p2), (3, .int (nI i9))]) hx hb dd_M_overdue_127 hl (by decide) rfl (fun ls hl => ?_)
                      refine lv_iload hx hb dd_M_overdue_129 (lv_at hl 0 rfl) ?_
                      refine lv_if_eq (tgt := 156) hx hb dd_M_overdue_131 (by decide) (fun c71 => absurd c71 (by decide)) (fun c71 => ?_)
                      refine lv_iload hx hb dd_M_overdue_134 (lv_at hl 3 rfl) ?_
                      refine lv_if_lt (tgt := 152) hx hb dd_M_overdue_136 (by decide) (fun c72 => ?_) (fun c72 => absurd (by decide) c72)
                      refine lv_iload hx hb dd_M_overdue_152 (lv_at hl 2 rfl) ?_
                      refine lv_istore (lv' := [(6, .int (nI h)), (9, .int (1 : Int32)), (8, .int (su_lat mv t p1 p2 h)), (7, .int (nI h)), (5, .int (nI k)), (4, .int (nI l5)), (0, .ref h0), (1, .int p1), (2, .int p2), (3, .int (nI i9))]) hx hb dd_M_overdue_154 hl (by decide) rfl (fun ls hl => ?_)
                      obtain ⟨x73, ex73⟩ : ∃ y : Int32, y = (nI h) + 1 := ⟨_, rfl⟩
                      refine lv_iinc (v := x73) (lv' := [(7, .int x73), (6, .int (nI h)), (9, .int (1 : Int32)), (8, .int (su_lat mv t p1 p2 h)), (5, .int (nI k)), (4, .int (nI l5)), (0, .ref h0), (1, .int p1), (2, .int p2), (3, .int (nI i9))]) hx hb dd_M_overdue_156 hl (k := 3) rfl (by rw [ex73]; rfl) (by decide) rfl (fun ls hl => ?_)
                      refine lv_goto (tgt := 57) hx hb dd_M_overdue_159 (by decide) ?_
                      have hi7 : x73 = nI (h + 1) := by rw [ex73]; exact nI_1 h
                      rw [hi7] at hl
                      rw [← h5] at hl
                      rw [nI_leI (by omega) (by omega)] at c68
                      exact jh (h + 1) (by omega) (nI h) H _ ls (by simp only [su_nx, su_bh, hl5, hq7, if_neg (su_oz1 c59), if_neg c61, if_pos c65, if_neg c68, if_true, Bool.false_eq_true, if_false]; rfl) hw (lv_sub hl [0, 1, 4, 5, 6, 7, 8, 9] rfl)
              · skip
                refine lv_goto (tgt := 156) hx hb dd_M_overdue_81 (by decide) ?_
                obtain ⟨x74, ex74⟩ : ∃ y : Int32, y = (nI h) + 1 := ⟨_, rfl⟩
                refine lv_iinc (v := x74) (lv' := [(7, .int x74), (8, .int (su_lat mv t p1 p2 h)), (6, .int (-1 : Int32)), (5, .int (nI k)), (4, .int (nI l5)), (0, .ref h0), (1, .int p1), (2, .int p2), (3, .int (nI i9))]) hx hb dd_M_overdue_156 hl (k := 1) rfl (by rw [ex74]; rfl) (by decide) rfl (fun ls hl => ?_)
                refine lv_goto (tgt := 57) hx hb dd_M_overdue_159 (by decide) ?_
                have hi7 : x74 = nI (h + 1) := by rw [ex74]; exact nI_1 h
                rw [hi7] at hl
                rw [← h5] at hl
                exact jh (h + 1) (by omega) (-1 : Int32) H _ ls (by simp only [su_nx, su_bh, hl5, hq7, if_pos (su_oz0 c59), if_true, Bool.false_eq_true, if_false]; rfl) hw (lv_sub hl [0, 2, 3, 4, 5, 6, 7, 8] rfl)
            · skip
              have h5 : o5 = nI l5 := by rw [e5, hl5]; rfl
              have hl5n : l5 < n := su_pk_lt hl5
              have h7 : o7 = nI x7 := by rw [e7, hq7]; rfl
              have hx7 : x7 < h := su_nx_lt hq7
              rw [h5, h7] at hl
              rw [hl5] at hq7
              refine lv_iload hx hb dd_M_overdue_57 (lv_at hl 0 rfl) ?_
              refine lv_aload_n hx hb dd_M_overdue_59 rfl (lv_at hl 4 rfl) ?_
              refine pm_get (ci := 6) (C := cn_M) (T := cf_M) (N := 23) (v := .int (nI n)) hx hb hg gu_M hown hK.2.1 hw mwP34.1 rfl 1 (by decide) (hg _ gf_M_69) (fun _ h9 => h9) rfl dd_M_overdue_60 ?_
              refine lv_icmp_ge (tgt := 162) hx hb dd_M_overdue_63 (by decide) (fun c75 => absurd c75 (nI_ge hhn (by omega))) (fun c75 => ?_)
              refine lv_aload_n hx hb dd_M_overdue_66 rfl (lv_at hl 4 rfl) ?_
              refine lv_iload hx hb dd_M_overdue_67 (lv_at hl 0 rfl) ?_
              refine lv_iload_n hx hb dd_M_overdue_69 rfl (lv_at hl 5 rfl) ?_
              refine lv_iload_n hx hb dd_M_overdue_70 rfl (lv_at hl 6 rfl) ?_
              refine cx_after (cx_rV (n := 3) (As := [.int (nI h), .int p1, .int p2]) (rest := []) ⟨hx, hb, hml, hown, hg⟩ (c_M_late l z D ac sa P34 h0 ma mv (su_gs (1 : Int32) (1 : Int32) (1 : Int32) (1 : Int32)) al so n t hn40 ht100 h p1 p2 mwP34) (cx_gv gm_M_147 gi_M_late gs_M_late gn_M gc_M_late) (by decide +kernel) ⟨by decide, by decide⟩ hK hw mwP34.1 rfl rfl hl.1 rfl (Nat.le_of_ble_eq_true rfl) dd_M_overdue_71 ⟨by decide, by decide⟩) hw (fun v9 P9 H locs hp hw => ?_)
              obtain ⟨rfl, e9⟩ := hp
              rw [e9] at hw
              clear e9 P9
              refine W.eq (g2 := F0 m 74 ls [.int (su_lat mv t p1 p2 h)]) rfl ?_
              refine lv_istore (lv' := [(8, .int (su_lat mv t p1 p2 h)), (7, .int (nI h)), (6, .int (nI x7)), (5, .int (nI k)), (4, .int (nI l5)), (0, .ref h0), (1, .int p1), (2, .int p2), (3, .int (nI i9))]) hx hb dd_M_overdue_74 hl (by decide) rfl (fun ls hl => ?_)
              refine lv_iload hx hb dd_M_overdue_76 (lv_at hl 0 rfl) ?_
              refine lv_if_ge (tgt := 84) hx hb dd_M_overdue_78 (by decide) (fun c76 => ?_) (fun c76 => ?_)
              · skip
                refine lv_iload hx hb dd_M_overdue_84 (lv_at hl 4 rfl) ?_
                refine lv_if_lt (tgt := 122) hx hb dd_M_overdue_86 (by decide) (fun c77 => absurd c77 (nI_pos (by omega))) (fun c77 => ?_)
                refine lv_iload hx hb dd_M_overdue_89 (lv_at hl 0 rfl) ?_
                refine lv_aload_n hx hb dd_M_overdue_91 rfl (lv_at hl 5 rfl) ?_
                refine lv_iload hx hb dd_M_overdue_92 (lv_at hl 4 rfl) ?_
                refine lv_iload_n hx hb dd_M_overdue_94 rfl (lv_at hl 6 rfl) ?_
                refine lv_iload_n hx hb dd_M_overdue_95 rfl (lv_at hl 7 rfl) ?_
                refine cx_after (cx_rV (n := 3) (As := [.int (nI l5), .int p1, .int p2]) (rest := [.int (su_lat mv t p1 p2 h)]) ⟨hx, hb, hml, hown, hg⟩ (c_M_late l z D ac sa P34 h0 ma mv (su_gs (1 : Int32) (1 : Int32) (1 : Int32) (1 : Int32)) al so n t hn40 ht100 l5 p1 p2 mwP34) (cx_gv gm_M_147 gi_M_late gs_M_late gn_M gc_M_late) (by decide +kernel) ⟨by decide, by decide⟩ hK hw mwP34.1 rfl rfl hl.1 rfl (Nat.le_of_ble_eq_true rfl) dd_M_overdue_96 ⟨by decide, by decide⟩) hw (fun v9 P9 H locs hp hw => ?_)
                obtain ⟨rfl, e9⟩ := hp
                rw [e9] at hw
                clear e9 P9
                refine W.eq (g2 := F0 m 99 ls [.int (su_lat mv t p1 p2 l5), .int (su_lat mv t p1 p2 h)]) rfl ?_
                refine lv_icmp_gt (tgt := 122) hx hb dd_M_overdue_99 (by decide) (fun c78 => ?_) (fun c78 => ?_)
                · skip
                  refine lv_iconst (v := 1) hx hb dd_M_overdue_122 (by decide) ?_
                  refine lv_goto (tgt := 127) hx hb dd_M_overdue_123 (by decide) ?_
                  refine lv_istore (lv' := [(9, .int (1 : Int32)), (8, .int (su_lat mv t p1 p2 h)), (7, .int (nI h)), (6, .int (nI x7)), (5, .int (nI k)), (4, .int (nI l5)), (0, .ref h0), (1, .int p1), (2, .int p2), (3, .int (nI i9))]) hx hb dd_M_overdue_127 hl (by decide) rfl (fun ls hl => ?_)
                  refine lv_iload hx hb dd_M_overdue_129 (lv_at hl 0 rfl) ?_
                  refine lv_if_eq (tgt := 156) hx hb dd_M_overdue_131 (by decide) (fun c79 => absurd c79 (by decide)) (fun c79 => ?_)
                  refine lv_iload hx hb dd_M_overdue_134 (lv_at hl 3 rfl) ?_
                  refine lv_if_lt (tgt := 152) hx hb dd_M_overdue_136 (by decide) (fun c80 => absurd c80 (nI_pos (by omega))) (fun c80 => ?_)
                  refine lv_iload hx hb dd_M_overdue_139 (lv_at hl 1 rfl) ?_
                  refine lv_aload_n hx hb dd_M_overdue_141 rfl (lv_at hl 6 rfl) ?_
                  refine lv_iload hx hb dd_M_overdue_142 (lv_at hl 3 rfl) ?_
                  refine lv_iload_n hx hb dd_M_overdue_144 rfl (lv_at hl 7 rfl) ?_
                  refine lv_iload_n hx hb dd_M_overdue_145 rfl (lv_at hl 8 rfl) ?_
                  refine cx_after (cx_rV (n := 3) (As := [.int (nI x7), .int p1, .int p2]) (rest := [.int (su_lat mv t p1 p2 h)]) ⟨hx, hb, hml, hown, hg⟩ (c_M_late l z D ac sa P34 h0 ma mv (su_gs (1 : Int32) (1 : Int32) (1 : Int32) (1 : Int32)) al so n t hn40 ht100 x7 p1 p2 mwP34) (cx_gv gm_M_147 gi_M_late gs_M_late gn_M gc_M_late) (by decide +kernel) ⟨by decide, by decide⟩ hK hw mwP34.1 rfl rfl hl.1 rfl (Nat.le_of_ble_eq_true rfl) dd_M_overdue_146 ⟨by decide, by decide⟩) hw (fun v9 P9 H locs hp hw => ?_)
                  obtain ⟨rfl, e9⟩ := hp
                  rw [e9] at hw
                  clear e9 P9
                  refine W.eq (g2 := F0 m 149 ls [.int (su_lat mv t p1 p2 x7), .int (su_lat mv t p1 p2 h)]) rfl ?_
                  refine lv_icmp_ge (tgt := 156) hx hb dd_M_overdue_149 (by decide) (fun c81 => ?_) (fun c81 => ?_)
                  · skip
                    obtain ⟨x82, ex82⟩ : ∃ y : Int32, y = (nI h) + 1 := ⟨_, rfl⟩
                    refine lv_iinc (v := x82) (lv' := [(7, .int x82), (9, .int (1 : Int32)), (8, .int (su_lat mv t p1 p2 h)), (6, .int (nI x7)), (5, .int (nI k)), (4, .int (nI l5)), (0, .ref h0), (1, .int p1), (2, .int p2), (3, .int (nI i9))]) hx hb dd_M_overdue_156 hl (k := 2) rfl (by rw [ex82]; rfl) (by decide) rfl (fun ls hl => ?_)
                    refine lv_goto (tgt := 57) hx hb dd_M_overdue_159 (by decide) ?_
                    have hi7 : x82 = nI (h + 1) := by rw [ex82]; exact nI_1 h
                    rw [hi7] at hl
                    rw [← h5] at hl
                    exact jh (h + 1) (by omega) (nI x7) H _ ls (by simp only [su_nx, su_bh, hl5, hq7, if_neg (su_oz1 c76), if_pos c78, if_pos c81, if_true, Bool.false_eq_true, if_false]; rfl) hw (lv_sub hl [0, 3, 4, 5, 6, 7, 8, 9] rfl)
                  · skip
                    refine lv_iload hx hb dd_M_overdue_152 (lv_at hl 2 rfl) ?_
                    refine lv_istore (lv' := [(6, .int (nI h)), (9, .int (1 : Int32)), (8, .int (su_lat mv t p1 p2 h)), (7, .int (nI h)), (5, .int (nI k)), (4, .int (nI l5)), (0, .ref h0), (1, .int p1), (2, .int p2), (3, .int (nI i9))]) hx hb dd_M_overdue_154 hl (by decide) rfl (fun ls hl => ?_)
                    obtain ⟨x83, ex83⟩ : ∃ y : Int32, y = (nI h) + 1 := ⟨_, rfl⟩
                    refine lv_iinc (v := x83) (lv' := [(7, .int x83), (6, .int (nI h)), (9, .int (1 : Int32)), (8, .int (su_lat mv t p1 p2 h)), (5, .int (nI k)), (4, .int (nI l5)), (0, .ref h0), (1, .int p1), (2, .int p2), (3, .int (nI i9))]) hx hb dd_M_overdue_156 hl (k := 3) rfl (by rw [ex83]; rfl) (by decide) rfl (fun ls hl => ?_)
                    refine lv_goto (tgt := 57) hx hb dd_M_overdue_159 (by decide) ?_
                    have hi7 : x83 = nI (h + 1) := by rw [ex83]; exact nI_1 h
                    rw [hi7] at hl
                    rw [← h5] at hl
                    exact jh (h + 1) (by omega) (nI h) H _ ls (by simp only [su_nx, su_bh, hl5, hq7, if_neg (su_oz1 c76), if_pos c78, if_neg c81, if_true, Bool.false_eq_true, if_false]; rfl) hw (lv_sub hl [0, 1, 4, 5, 6, 7, 8, 9] rfl)
                · skip
                  refine lv_iload hx hb dd_M_overdue_102 (lv_at hl 0 rfl) ?_
                  refine lv_aload_n hx hb dd_M_overdue_104 rfl (lv_at hl 5 rfl) ?_
                  refine lv_iload hx hb dd_M_overdue_105 (lv_at hl 4 rfl) ?_
                  refine lv_iload_n hx hb dd_M_overdue_107 rfl (lv_at hl 6 rfl) ?_
                  refine lv_iload_n hx hb dd_M_overdue_108 rfl (lv_at hl 7 rfl) ?_
                  refine cx_after (cx_rV (n := 3) (As := [.int (nI l5), .int p1, .int p2]) (rest := [.int (su_lat mv t p1 p2 h)]) ⟨hx, hb, hml, hown, hg⟩ (c_M_late l z D ac sa P34 h0 ma mv (su_gs (1 : Int32) (1 : Int32) (1 : Int32) (1 : Int32)) al so n t hn40 ht100 l5 p1 p2 mwP34) (cx_gv gm_M_147 gi_M_late gs_M_late gn_M gc_M_late) (by decide +kernel) ⟨by decide, by decide⟩ hK hw mwP34.1 rfl rfl hl.1 rfl (Nat.le_of_ble_eq_true rfl) dd_M_overdue_109 ⟨by decide, by decide⟩) hw (fun v9 P9 H locs hp hw => ?_)
                  obtain ⟨rfl, e9⟩ := hp
                  rw [e9] at hw
                  clear e9 P9
                  refine W.eq (g2 := F0 m 112 ls [.int (su_lat mv t p1 p2 l5), .int (su_lat mv t p1 p2 h)]) rfl ?_
                  refine lv_icmp_ne (tgt := 126) hx hb dd_M_overdue_112 (by decide) (fun c84 => ?_) (fun c84 => ?_)
                  · skip
                    refine lv_iconst (v := 0) hx hb dd_M_overdue_126 (by decide) ?_
                    refine lv_istore (lv' := [(9, .int (0 : Int32)), (8, .int (su_lat mv t p1 p2 h)), (7, .int (nI h)), (6, .int (nI x7)), (5, .int (nI k)), (4, .int (nI l5)), (0, .ref h0), (1, .int p1), (2, .int p2), (3, .int (nI i9))]) hx hb dd_M_overdue_127 hl (by decide) rfl (fun ls hl => ?_)
                    refine lv_iload hx hb dd_M_overdue_129 (lv_at hl 0 rfl) ?_
                    refine lv_if_eq (tgt := 156) hx hb dd_M_overdue_131 (by decide) (fun c85 => ?_) (fun c85 => absurd (by decide) c85)
                    obtain ⟨x86, ex86⟩ : ∃ y : Int32, y = (nI h) + 1 := ⟨_, rfl⟩
                    refine lv_iinc (v := x86) (lv' := [(7, .int x86), (9, .int (0 : Int32)), (8, .int (su_lat mv t p1 p2 h)), (6, .int (nI x7)), (5, .int (nI k)), (4, .int (nI l5)), (0, .ref h0), (1, .int p1), (2, .int p2), (3, .int (nI i9))]) hx hb dd_M_overdue_156 hl (k := 2) rfl (by rw [ex86]; rfl) (by decide) rfl (fun ls hl => ?_)
                    refine lv_goto (tgt := 57) hx hb dd_M_overdue_159 (by decide) ?_
                    have hi7 : x86 = nI (h + 1) := by rw [ex86]; exact nI_1 h
                    rw [hi7] at hl
                    rw [← h5] at hl
                    exact jh (h + 1) (by omega) (nI x7) H _ ls (by simp only [su_nx, su_bh, hl5, hq7, if_neg (su_oz1 c76), if_neg c78, if_neg c84, if_true, Bool.false_eq_true, if_false]; rfl) hw (lv_sub hl [0, 3, 4, 5, 6, 7, 8, 9] rfl)
                  · skip
                    refine lv_iload hx hb dd_M_overdue_115 (lv_at hl 1 rfl) ?_
                    refine lv_iload hx hb dd_M_overdue_117 (lv_at hl 4 rfl) ?_
                    refine lv_icmp_le (tgt := 126) hx hb dd_M_overdue_119 (by decide) (fun c87 => ?_) (fun c87 => ?_)
                    · skip
                      refine lv_iconst (v := 0) hx hb dd_M_overdue_126 (by decide) ?_
                      refine lv_istore (lv' := [(9, .int (0 : Int32)), (8, .int (su_lat mv t p1 p2 h)), (7, .int (nI h)), (6, .int (nI x7)), (5, .int (nI k)), (4, .int (nI l5)), (0, .ref h0), (1, .int p1), (2, .int p2), (3, .int (nI i9))]) hx hb dd_M_overdue_127 hl (by decide) rfl (fun ls hl => ?_)
                      refine lv_iload hx hb dd_M_overdue_129 (lv_at hl 0 rfl) ?_
                      refine lv_if_eq (tgt := 156) hx hb dd_M_overdue_131 (by decide) (fun c88 => ?_) (fun c88 => absurd (by decide) c88)
                      obtain ⟨x89, ex89⟩ : ∃ y : Int32, y = (nI h) + 1 := ⟨_, rfl⟩
                      refine lv_iinc (v := x89) (lv' := [(7, .int x89), (9, .int (0 : Int32)), (8, .int (su_lat mv t p1 p2 h)), (6, .int (nI x7)), (5, .int (nI k)), (4, .int (nI l5)), (0, .ref h0), (1, .int p1), (2, .int p2), (3, .int (nI i9))]) hx hb dd_M_overdue_156 hl (k := 2) rfl (by rw [ex89]; rfl) (by decide) rfl (fun ls hl => ?_)
                      refine lv_goto (tgt := 57) hx hb dd_M_overdue_159 (by decide) ?_
                      have hi7 : x89 = nI (h + 1) := by rw [ex89]; exact nI_1 h
                      rw [hi7] at hl
                      rw [← h5] at hl
                      rw [nI_leI (by omega) (by omega)] at c87
                      exact jh (h + 1) (by omega) (nI x7) H _ ls (by simp only [su_nx, su_bh, hl5, hq7, if_neg (su_oz1 c76), if_neg c78, if_pos c84, if_pos c87, if_true, Bool.false_eq_true, if_false]; rfl) hw (lv_sub hl [0, 3, 4, 5, 6, 7, 8, 9] rfl)
                    · skip
                      refine lv_iconst (v := 1) hx hb dd_M_overdue_122 (by decide) ?_
                      refine lv_goto (tgt := 127) hx hb dd_M_overdue_123 (by decide) ?_
                      refine lv_istore (lv' := [(9, .int (1 : Int32)), (8, .int (su_lat mv t p1 p2 h)), (7, .int (nI h)), (6, .int (nI x7)), (5, .int (nI k)), (4, .int (nI l5)), (0, .ref h0), (1, .int p1), (2, .int p2), (3, .int (nI i9))]) hx hb dd_M_overdue_127 hl (by decide) rfl (fun ls hl => ?_)
                      refine lv_iload hx hb dd_M_overdue_129 (lv_at hl 0 rfl) ?_
                      refine lv_if_eq (tgt := 156) hx hb dd_M_overdue_131 (by decide) (fun c90 => absurd c90 (by decide)) (fun c90 => ?_)
                      refine lv_iload hx hb dd_M_overdue_134 (lv_at hl 3 rfl) ?_
                      refine lv_if_lt (tgt := 152) hx hb dd_M_overdue_136 (by decide) (fun c91 => absurd c91 (nI_pos (by omega))) (fun c91 => ?_)
                      refine lv_iload hx hb dd_M_overdue_139 (lv_at hl 1 rfl) ?_
                      refine lv_aload_n hx hb dd_M_overdue_141 rfl (lv_at hl 6 rfl) ?_
                      refine lv_iload hx hb dd_M_overdue_142 (lv_at hl 3 rfl) ?_
                      refine lv_iload_n hx hb dd_M_overdue_144 rfl (lv_at hl 7 rfl) ?_
                      refine lv_iload_n hx hb dd_M_overdue_145 rfl (lv_at hl 8 rfl) ?_
                      refine cx_after (cx_rV (n := 3) (As := [.int (nI x7), .int p1, .int p2]) (rest := [.int (su_lat mv t p1 p2 h)]) ⟨hx, hb, hml, hown, hg⟩ (c_M_late l z D ac sa P34 h0 ma mv (su_gs (1 : Int32) (1 : Int32) (1 : Int32) (1 : Int32)) al so n t hn40 ht100 x7 p1 p2 mwP34) (cx_gv gm_M_147 gi_M_late gs_M_late gn_M gc_M_late) (by decide +kernel) ⟨by decide, by decide⟩ hK hw mwP34.1 rfl rfl hl.1 rfl (Nat.le_of_ble_eq_true rfl) dd_M_overdue_146 ⟨by decide, by decide⟩) hw (fun v9 P9 H locs hp hw => ?_)
                      obtain ⟨rfl, e9⟩ := hp
                      rw [e9] at hw
                      clear e9 P9
                      refine W.eq (g2 := F0 m 149 ls [.int (su_lat mv t p1 p2 x7), .int (su_lat mv t p1 p2 h)]) rfl ?_
                      refine lv_icmp_ge (tgt := 156) hx hb dd_M_overdue_149 (by decide) (fun c92 => ?_) (fun c92 => ?_)
                      · skip
                        obtain ⟨x93, ex93⟩ : ∃ y : Int32, y = (nI h) + 1 := ⟨_, rfl⟩
                        refine lv_iinc (v := x93) (lv' := [(7, .int x93), (9, .int (1 : Int32)), (8, .int (su_lat mv t p1 p2 h)), (6, .int (nI x7)), (5, .int (nI k)), (4, .int (nI l5)), (0, .ref h0), (1, .int p1), (2, .int p2), (3, .int (nI i9))]) hx hb dd_M_overdue_156 hl (k := 2) rfl (by rw [ex93]; rfl) (by decide) rfl (fun ls hl => ?_)
                        refine lv_goto (tgt := 57) hx hb dd_M_overdue_159 (by decide) ?_
                        have hi7 : x93 = nI (h + 1) := by rw [ex93]; exact nI_1 h
                        rw [hi7] at hl
                        rw [← h5] at hl
                        rw [nI_leI (by omega) (by omega)] at c87
                        exact jh (h + 1) (by omega) (nI x7) H _ ls (by simp only [su_nx, su_bh, hl5, hq7, if_neg (su_oz1 c76), if_neg c78, if_pos c84, if_neg c87, if_pos c92, if_true, Bool.false_eq_true, if_false]; rfl) hw (lv_sub hl [0, 3, 4, 5, 6, 7, 8, 9] rfl)
                      · skip
                        refine lv_iload hx hb dd_M_overdue_152 (lv_at hl 2 rfl) ?_
                        refine lv_istore (lv' := [(6, .int (nI h)), (9, .int (1 : Int32)), (8, .int (su_lat mv t p1 p2 h)), (7, .int (nI h)), (5, .int (nI k)), (4, .int (nI l5)), (0, .ref h0), (1, .int p1), (2, .int p2), (3, .int (nI i9))]) hx hb dd_M_overdue_154 hl (by decide) rfl (fun ls hl => ?_)
                        obtain ⟨x94, ex94⟩ : ∃ y : Int32, y = (nI h) + 1 := ⟨_, rfl⟩
                        refine lv_iinc (v := x94) (lv' := [(7, .int x94), (6, .int (nI h)), (9, .int (1 : Int32)), (8, .int (su_lat mv t p1 p2 h)), (5, .int (nI k)), (4, .int (nI l5)), (0, .ref h0), (1, .int p1), (2, .int p2), (3, .int (nI i9))]) hx hb dd_M_overdue_156 hl (k := 3) rfl (by rw [ex94]; rfl) (by decide) rfl (fun ls hl => ?_)
                        refine lv_goto (tgt := 57) hx hb dd_M_overdue_159 (by decide) ?_
                        have hi7 : x94 = nI (h + 1) := by rw [ex94]; exact nI_1 h
                        rw [hi7] at hl
                        rw [← h5] at hl
                        rw [nI_leI (by omega) (by omega)] at c87
                        exact jh (h + 1) (by omega) (nI h) H _ ls (by simp only [su_nx, su_bh, hl5, hq7, if_neg (su_oz1 c76), if_neg c78, if_pos c84, if_neg c87, if_neg c92, if_true, Bool.false_eq_true, if_false]; rfl) hw (lv_sub hl [0, 1, 4, 5, 6, 7, 8, 9] rfl)
              · skip
                refine lv_goto (tgt := 156) hx hb dd_M_overdue_81 (by decide) ?_
                obtain ⟨x95, ex95⟩ : ∃ y : Int32, y = (nI h) + 1 := ⟨_, rfl⟩
                refine lv_iinc (v := x95) (lv' := [(7, .int x95), (8, .int (su_lat mv t p1 p2 h)), (6, .int (nI x7)), (5, .int (nI k)), (4, .int (nI l5)), (0, .ref h0), (1, .int p1), (2, .int p2), (3, .int (nI i9))]) hx hb dd_M_overdue_156 hl (k := 1) rfl (by rw [ex95]; rfl) (by decide) rfl (fun ls hl => ?_)
                refine lv_goto (tgt := 57) hx hb dd_M_overdue_159 (by decide) ?_
                have hi7 : x95 = nI (h + 1) := by rw [ex95]; exact nI_1 h
                rw [hi7] at hl
                rw [← h5] at hl
                exact jh (h + 1) (by omega) (nI x7) H _ ls (by simp only [su_nx, su_bh, hl5, hq7, if_pos (su_oz0 c76), if_true, Bool.false_eq_true, if_false]; rfl) hw (lv_sub hl [0, 2, 3, 4, 5, 6, 7, 8] rfl)
      refine lv_iload hx hb dd_M_overdue_45 (lv_at hl 0 rfl) ?_
      refine lv_iload_n hx hb dd_M_overdue_47 rfl (lv_at hl 5 rfl) ?_
      refine lv_icmp_gt (tgt := 179) hx hb dd_M_overdue_48 (by decide) (fun c96 => absurd c96 (nI_nlt (by omega) (by omega))) (fun c96 => ?_)
      refine lv_iconst (v := (-1)) hx hb dd_M_overdue_51 (by decide) ?_
      refine lv_istore (lv' := [(6, .int (-1 : Int32)), (5, .int (nI k)), (4, .int o5), (0, .ref h0), (1, .int p1), (2, .int p2), (3, .int (nI i9))]) hx hb dd_M_overdue_52 hl (by decide) rfl (fun ls hl => ?_)
      refine lv_iconst (v := 0) hx hb dd_M_overdue_54 (by decide) ?_
      refine lv_istore (lv' := [(7, .int (0 : Int32)), (6, .int (-1 : Int32)), (5, .int (nI k)), (4, .int o5), (0, .ref h0), (1, .int p1), (2, .int p2), (3, .int (nI i9))]) hx hb dd_M_overdue_55 hl (by decide) rfl (fun ls hl => ?_)
      exact inner n 0 (Nat.zero_add n) (-1) _ _ ls rfl hw (lv_sub hl [0, 1, 2, 3, 4, 5, 6, 7] rfl)
  exact lp (i9 + 1) 0 (Nat.zero_add _) (.inl rfl) (-1) _ _ ls rfl hw (lv_sub hl [0, 1, 2, 3, 4, 5] rfl)
