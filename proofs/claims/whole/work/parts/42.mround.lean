theorem su_irr (a : Int32) : ¬ a < a := Int32.not_lt.mpr (Int32.le_refl a)
def su_rM (mv : Nat → Nat → Int32) (h : Int64) (c cd : Nat) : Int32 := su_met mv (fun i => bn h (su_dg c cd i)) c
def su_rS (h : Int64) (c cd i : Nat) : Int32 := nI (bn h (su_dg c cd i))
def su_rk (h : Int64) (n : Nat) : Nat → Int32
  | 0 => 1
  | i + 1 => if su_in (nI (bn h i)) 0 (nI n - 1) = 0 then 0 else su_rk h n i
def su_ro1 (h : Int64) (i : Nat) (o : Int32) : Nat → Int32
  | 0 => o
  | k + 1 => if nI (bn h k) = nI (bn h i) then 0 else su_ro1 h i o k
def su_ro (h : Int64) : Nat → Int32
  | 0 => 1
  | i + 1 => su_ro1 h i (su_ro h i) i
theorem su_rk_all {h : Int64} {n : Nat} : ∀ {T : Nat}, ¬ su_rk h n T = 0 → ∀ i, i < T → ¬ su_in (nI (bn h i)) 0 (nI n - 1) = 0
  | 0, _, i, hi => absurd hi (Nat.not_lt_zero i)
  | T + 1, hz, i, hi => by
    simp only [su_rk] at hz
    by_cases h1 : su_in (nI (bn h T)) 0 (nI n - 1) = 0
    · rw [if_pos h1] at hz; exact absurd rfl hz
    · rw [if_neg h1] at hz
      rcases Nat.lt_or_eq_of_le (Nat.le_of_lt_succ hi) with h2 | h2
      · exact su_rk_all hz i h2
      · rw [h2]; exact h1
def su_rb (M : Nat → Int32) (S : Nat → Nat → Int32) (c N : Nat) (g : Nat → Int32) (lv : Int32) : Prop :=
  (lv = -1 ∧ ∀ cd, cd < N → ¬ su_og c cd) ∨ (∃ cd0, cd0 < N ∧ su_og c cd0 ∧ lv = M cd0 ∧ (∀ i, i < c → g i = S cd0 i) ∧ ∀ cd, cd < N → su_og c cd → ¬ M cd < lv ∧ (M cd = lv → su_ahf (S cd) g c 0 = 0))
theorem su_ahf_eq {f g : Nat → Int32} : ∀ {r i : Nat}, (∀ k, i ≤ k → k < i + r → f k = g k) → su_ahf f g r i = 0
  | 0, _, _ => rfl
  | r + 1, i, h => by
    simp only [su_ahf]
    rw [if_pos (h i (Nat.le_refl i) (by omega))]
    exact su_ahf_eq (fun k h1 h2 => h k (by omega) (by omega))
theorem su_ahf_cg {f g f1 g1 : Nat → Int32} : ∀ {r i : Nat}, (∀ k, i ≤ k → k < i + r → f k = f1 k ∧ g k = g1 k) → su_ahf f g r i = su_ahf f1 g1 r i
  | 0, _, _ => rfl
  | r + 1, i, h => by
    simp only [su_ahf]
    rw [(h i (Nat.le_refl i) (by omega)).1, (h i (Nat.le_refl i) (by omega)).2, su_ahf_cg (r := r) (i := i + 1) (fun k h1 h2 => h k (by omega) (by omega))]
theorem su_ahf_tr {a b g : Nat → Int32} : ∀ {r i : Nat}, su_ahf a g r i = 0 → ¬ su_ahf b g r i = 0 → su_ahf a b r i = 0
  | 0, _, _, _ => rfl
  | r + 1, i, h1, h2 => by
    simp only [su_ahf] at h1 h2 ⊢
    by_cases hb : b i = g i
    · rw [if_pos hb] at h2
      by_cases ha : a i = g i
      · rw [if_pos ha] at h1
        rw [if_pos (ha.trans hb.symm)]
        exact su_ahf_tr h1 h2
      · rw [if_neg ha] at h1
        by_cases h3 : g i ≤ a i
        · rw [if_neg (fun h => ha (h.trans hb)), if_pos (by rw [hb]; exact h3)]
        · rw [if_neg h3] at h1; exact absurd h1 (by decide)
    · rw [if_neg hb] at h2
      by_cases h4 : g i ≤ b i
      · rw [if_pos h4] at h2; exact absurd rfl h2
      · have h5 : b i < g i := Int32.not_le.mp h4
        by_cases ha : a i = g i
        · rw [if_neg (fun h => hb (h.symm.trans ha)), if_pos (by rw [ha]; exact Int32.le_of_lt h5)]
        · rw [if_neg ha] at h1
          by_cases h3 : g i ≤ a i
          · have h6 : b i < a i := Int32.lt_of_lt_of_le h5 h3
            rw [if_neg (fun h => by rw [h] at h6; exact absurd h6 (su_irr _)), if_pos (Int32.le_of_lt h6)]
          · rw [if_neg h3] at h1; exact absurd h1 (by decide)
section RB
variable {M : Nat → Int32} {S : Nat → Nat → Int32} {c N : Nat} {g g1 : Nat → Int32} {lv : Int32}
theorem su_rb_no (h : su_rb M S c N g lv) (hn : ¬ su_og c N) : su_rb M S c (N + 1) g lv := by
  rcases h with ⟨h1, h2⟩ | ⟨cd0, h1, h2, h3, h4, h5⟩
  · refine .inl ⟨h1, fun cd hc => ?_⟩
    rcases Nat.lt_or_eq_of_le (Nat.le_of_lt_succ hc) with h6 | h6
    · exact h2 cd h6
    · rw [h6]; exact hn
  · refine .inr ⟨cd0, by omega, h2, h3, h4, fun cd hc ho => ?_⟩
    rcases Nat.lt_or_eq_of_le (Nat.le_of_lt_succ hc) with h6 | h6
    · exact h5 cd h6 ho
    · rw [h6] at ho; exact absurd ho hn
theorem su_rb_skip (h : su_rb M S c N g lv) (h0 : ¬ lv < 0) (hc : ¬ M N < lv ∧ (M N = lv → su_ahf (S N) g c 0 = 0)) : su_rb M S c (N + 1) g lv := by
  rcases h with ⟨h1, h2⟩ | ⟨cd0, h1, h2, h3, h4, h5⟩
  · exact absurd (by rw [h1]; decide) h0
  · refine .inr ⟨cd0, by omega, h2, h3, h4, fun cd hcd ho => ?_⟩
    rcases Nat.lt_or_eq_of_le (Nat.le_of_lt_succ hcd) with h6 | h6
    · exact h5 cd h6 ho
    · rw [h6]; exact hc
theorem su_rb_first (h : su_rb M S c N g lv) (h0 : lv < 0) (hM : ∀ cd, su_og c cd → ¬ M cd < 0) (ho : su_og c N) (hg : ∀ i, i < c → g1 i = S N i) : su_rb M S c (N + 1) g1 (M N) := by
  rcases h with ⟨h1, h2⟩ | ⟨cd0, h1, h2, h3, h4, h5⟩
  · refine .inr ⟨N, by omega, ho, rfl, hg, fun cd hcd hoc => ?_⟩
    rcases Nat.lt_or_eq_of_le (Nat.le_of_lt_succ hcd) with h6 | h6
    · exact absurd hoc (h2 cd h6)
    · rw [h6]; exact ⟨su_irr _, fun _ => su_ahf_eq (fun k _ hk => (hg k (by omega)).symm)⟩
  · rw [h3] at h0; exact absurd h0 (hM cd0 h2)
theorem su_rb_less (h : su_rb M S c N g lv) (h0 : ¬ lv < 0) (ho : su_og c N) (hlt : M N < lv) (hg : ∀ i, i < c → g1 i = S N i) : su_rb M S c (N + 1) g1 (M N) := by
  rcases h with ⟨h1, h2⟩ | ⟨cd0, h1, h2, h3, h4, h5⟩
  · exact absurd (by rw [h1]; decide) h0
  · refine .inr ⟨N, by omega, ho, rfl, hg, fun cd hcd hoc => ?_⟩
    rcases Nat.lt_or_eq_of_le (Nat.le_of_lt_succ hcd) with h6 | h6
    · have h7 := Int32.not_lt.mp (h5 cd h6 hoc).1
      have h8 : M N < M cd := Int32.lt_of_lt_of_le hlt h7
      exact ⟨Int32.not_lt.mpr (Int32.le_of_lt h8), fun h9 => by rw [h9] at h8; exact absurd h8 (su_irr _)⟩
    · rw [h6]; exact ⟨su_irr _, fun _ => su_ahf_eq (fun k _ hk => (hg k (by omega)).symm)⟩
theorem su_rb_lex (h : su_rb M S c N g lv) (h0 : ¬ lv < 0) (ho : su_og c N) (he : M N = lv) (ha : ¬ su_ahf (S N) g c 0 = 0) (hg : ∀ i, i < c → g1 i = S N i) : su_rb M S c (N + 1) g1 (M N) := by
  rcases h with ⟨h1, h2⟩ | ⟨cd0, h1, h2, h3, h4, h5⟩
  · exact absurd (by rw [h1]; decide) h0
  · refine .inr ⟨N, by omega, ho, rfl, hg, fun cd hcd hoc => ?_⟩
    rcases Nat.lt_or_eq_of_le (Nat.le_of_lt_succ hcd) with h6 | h6
    · obtain ⟨h7, h8⟩ := h5 cd h6 hoc
      refine ⟨by rw [he]; exact h7, fun h9 => ?_⟩
      have h10 := su_ahf_tr (h8 (h9.trans he)) ha
      rw [← h10]
      exact su_ahf_cg (fun k _ hk => ⟨rfl, hg k (by omega)⟩)
    · rw [h6]; exact ⟨su_irr _, fun _ => su_ahf_eq (fun k _ hk => (hg k (by omega)).symm)⟩
end RB
theorem va_3 {mv : Nat → Nat → Int32} {a b c f : Nat → Int32} : va_up (va_up (va_up (va_up mv 15 a) 16 b) 17 c) 16 f = va_up (va_up (va_up mv 15 a) 16 f) 17 c := by
  funext i
  simp only [va_up]
  by_cases h1 : i = 16
  · subst h1; simp
  · simp only [if_neg h1]
theorem su_mst_cg {mv mw : Nat → Nat → Int32} {tr : Nat → Nat} (h0 : mv 0 = mw 0) (h1 : mv 1 = mw 1) : ∀ i, su_mst mv tr i = su_mst mw tr i
  | 0 => rfl
  | i + 1 => by simp only [su_mst, su_mh, h0, h1, su_mst_cg h0 h1 i]
theorem su_met_cg {mv mw : Nat → Nat → Int32} {tr : Nat → Nat} {c : Nat} (h0 : mv 0 = mw 0) (h1 : mv 1 = mw 1) : su_met mv tr c = su_met mw tr c := by
  simp only [su_met, su_mst_cg h0 h1 c]
theorem su_tn_c {c : Nat} (h : c ≤ 6) : su_tn (nI c) = c := by
  have h1 : ¬ (6 : Int32) < nI c := nI_nlt (a := 6) (b := c) h (by decide) |> fun h2 => h2
  unfold su_tn
  rw [if_neg h1, nI_clamp (by omega)]
theorem su_pw6 {c : Nat} (h : c ≤ 6) : 6 ^ c ≤ 46656 := Nat.pow_le_pow_right (n := 6) (by decide) h

theorem va_4 {mv : Nat → Nat → Int32} {a : Nat → Int32} : va_up (va_up (va_up mv 15 a) 16 (mv 16)) 17 (mv 17) = va_up mv 15 a := by
  funext i
  simp only [va_up]
  by_cases h1 : i = 17
  · subst h1; simp
  · simp only [if_neg h1]
    by_cases h2 : i = 16
    · subst h2; simp
    · simp only [if_neg h2]
theorem su_lt_of {a b : Int32} (h1 : ¬ b < a) (h2 : ¬ a = b) : a < b := by
  rw [Int32.lt_iff_toInt_lt] at h1 ⊢
  have h3 : a.toInt ≠ b.toInt := fun h => h2 (Int32.toInt_inj.mp h)
  omega
theorem su_p7 {p : Int32} {i : Nat} (h6 : ¬ (6 : Int32) ≤ nI i) (h : (if 6 < p then (6 : Int32) else p) ≤ nI i) : p ≤ nI i := by
  by_cases h1 : 6 < p
  · rw [if_pos h1] at h; exact absurd h h6
  · rw [if_neg h1] at h; exact h
theorem su_p8 {p : Int32} {i : Nat} (h : ¬ (if 6 < p then (6 : Int32) else p) ≤ nI i) (hi : i < 2 ^ 31) : ¬ (6 : Int32) ≤ nI i := fun h6 => h (Int32.le_trans (su_tn_6 p) h6)
theorem su_p9 {p : Int32} {i : Nat} (h : ¬ (if 6 < p then (6 : Int32) else p) ≤ nI i) (hi : i < 2 ^ 31) : ¬ p ≤ nI i := fun hp => h (by
  by_cases h1 : 6 < p
  · rw [if_pos h1]; exact Int32.le_trans (Int32.le_of_lt h1) hp
  · rw [if_neg h1]; exact hp)

set_option maxHeartbeats 4000000 in
set_option maxRecDepth 100000 in
theorem c_M_round (l : Launch) (z : Nat) (D : va_G) (ac : Nat → ClassId) (sa : Nat → Nat) (P : pm_T) (h0 : Nat) (ma : Nat → Nat) (mv : Nat → Nat → Int32) (th al so : Int32) (n t : Nat) (hn40 : n ≤ 40) (ht100 : t ≤ 100) (p1 : Int64) (p3 : Int32) (hM : ∀ c cd, c ≤ 6 → (∀ i, i < c → bn p1 i < n) → su_og c cd → ¬ su_met mv (fun i => bn p1 (su_dg c cd i)) c < 0) (mw : md_W P ac h0 ma mv th (nI n) al (nI t) so)  : cx_M l yy_M_round bb_M_round 11 (some .int) ({ frames := 4, cells := 0, slots := 0, locals := 120 } : Room) z D ac sa P [.ref h0, .long p1, .int p3] (fun v P' => ((su_gs (su_rk p1 n (su_tn p3)) (su_an8 (su_in p3 0 6) (su_ro p1 (su_tn p3))) 1 1) = 0 → ∃ (c9 : Nat) (f15 f16 f17 : Nat → Int32) (v0 : Int32), p3 = nI c9 ∧ c9 ≤ 6 ∧ v = some (.int v0) ∧ su_rb (su_rM mv p1 c9) (su_rS p1 c9) c9 (6 ^ c9) f17 v0 ∧ md_W P' ac h0 ma (va_up (va_up (va_up mv 15 f15) 16 f16) 17 f17) (su_gs (su_rk p1 n (su_tn p3)) (su_an8 (su_in p3 0 6) (su_ro p1 (su_tn p3))) 1 1) (nI n) al (nI t) (nI c9)) ∧ (¬ (su_gs (su_rk p1 n (su_tn p3)) (su_an8 (su_in p3 0 6) (su_ro p1 (su_tn p3))) 1 1) = 0 → v = some (.int 0) ∧ md_W P' ac h0 ma mv (su_gs (su_rk p1 n (su_tn p3)) (su_an8 (su_in p3 0 6) (su_ro p1 (su_tn p3))) 1 1) (nI n) al (nI t) so) ∧ md_F P P' h0 ma) := by
  refine cx_ofM (by decide) (Nat.le_of_ble_eq_true rfl) (fun p e s m below meth c ls hx hb hr hml hg hown hlocks hin hK hw hl => ?_)
  have hl : lv_has ls 11 [(0, .ref h0), (1, .long p1), (3, .int p3)] := hl
  have hown : s.vm.findClass cn_M = some m.cls := hown
  have j111 : ∀ (H : Heap) (locs : List Loc) (ls : Array Slot), pm_W z D cl_w P s.heap H locs → lv_has ls 11 [(0, .ref h0), (1, .long p1), (3, .int p3)] → W p l e ({ frames := 4, cells := 0, slots := 0, locals := 120 } : Room) s m ([.ref h0, .long p1, .int p3] : List Value).toArray below meth c H locs 0 0 (MQ below (cx_Q z D (fun v P' => ((su_gs (su_rk p1 n (su_tn p3)) (su_an8 (su_in p3 0 6) (su_ro p1 (su_tn p3))) 1 1) = 0 → ∃ (c9 : Nat) (f15 f16 f17 : Nat → Int32) (v0 : Int32), p3 = nI c9 ∧ c9 ≤ 6 ∧ v = some (.int v0) ∧ su_rb (su_rM mv p1 c9) (su_rS p1 c9) c9 (6 ^ c9) f17 v0 ∧ md_W P' ac h0 ma (va_up (va_up (va_up mv 15 f15) 16 f16) 17 f17) (su_gs (su_rk p1 n (su_tn p3)) (su_an8 (su_in p3 0 6) (su_ro p1 (su_tn p3))) 1 1) (nI n) al (nI t) (nI c9)) ∧ (¬ (su_gs (su_rk p1 n (su_tn p3)) (su_an8 (su_in p3 0 6) (su_ro p1 (su_tn p3))) 1 1) = 0 → v = some (.int 0) ∧ md_W P' ac h0 ma mv (su_gs (su_rk p1 n (su_tn p3)) (su_an8 (su_in p3 0 6) (su_ro p1 (su_tn p3))) 1 1) (nI n) al (nI t) so) ∧ md_F P P' h0 ma)) ([.ref h0, .long p1, .int p3] : List Value).toArray s ({ frames := 4, cells := 0, slots := 0, locals := 120 } : Room).cells ({ frames := 4, cells := 0, slots := 0, locals := 120 } : Room).slots (pm_A z)) (F0 m 111 ls [.int (su_an8 (su_in p3 0 6) (su_ro p1 (su_tn p3))), .int (su_rk p1 n (su_tn p3)), .ref h0]) := by
    intro H locs ls hw hl
    refine lv_iconst (v := 1) hx hb dd_M_round_111 (by decide) ?_
    refine lv_iconst (v := 1) hx hb dd_M_round_112 (by decide) ?_
    refine cx_after (cx_rV (n := 4) (As := [.int (su_rk p1 n (su_tn p3)), .int (su_an8 (su_in p3 0 6) (su_ro p1 (su_tn p3))), .int (1 : Int32), .int (1 : Int32)]) (rest := []) ⟨hx, hb, hml, hown, hg⟩ (c_M_goes l z D ac sa P h0 ma mv th (nI n) al (nI t) so (su_rk p1 n (su_tn p3)) (su_an8 (su_in p3 0 6) (su_ro p1 (su_tn p3))) (1 : Int32) (1 : Int32) mw) (cx_gv gm_M_83 gi_M_goes gs_M_goes gn_M gc_M_goes) (by decide +kernel) ⟨by decide, by decide⟩ hK hw mw.1 rfl rfl hl.1 rfl (Nat.le_of_ble_eq_true rfl) dd_M_round_113 ⟨by decide, by decide⟩) hw (fun v9 P9 H locs hp hw => ?_)
    obtain ⟨rfl, e9⟩ := hp
    rw [e9] at hw
    clear e9 P9
    refine W.eq (g2 := F0 m 116 ls [.int (if (su_gs (su_rk p1 n (su_tn p3)) (su_an8 (su_in p3 0 6) (su_ro p1 (su_tn p3))) (1 : Int32) (1 : Int32)) = 0 then 1 else 0)]) rfl ?_
    obtain ⟨P101, eP101⟩ : ∃ pmv : pm_T, pmv = pm_up P h0 (md_o ma (su_gs (su_rk p1 n (su_tn p3)) (su_an8 (su_in p3 0 6) (su_ro p1 (su_tn p3))) (1 : Int32) (1 : Int32)) (nI n) al (nI t) so) := ⟨_, rfl⟩
    have hw : pm_W z D cl_w (pm_up P h0 (md_o ma (su_gs (su_rk p1 n (su_tn p3)) (su_an8 (su_in p3 0 6) (su_ro p1 (su_tn p3))) (1 : Int32) (1 : Int32)) (nI n) al (nI t) so)) s.heap H _ := hw
    rw [← eP101] at hw
    have mwP101 : md_W P101 ac h0 ma mv (su_gs (su_rk p1 n (su_tn p3)) (su_an8 (su_in p3 0 6) (su_ro p1 (su_tn p3))) (1 : Int32) (1 : Int32)) (nI n) al (nI t) so := by rw [eP101]; exact md_W.obj mw
    have mfP101 : md_F P P101 h0 ma := by rw [eP101]; exact md_F.obj md_F.rf
    refine lv_if_ne (tgt := 121) hx hb dd_M_round_116 (by decide) (fun c102 => ?_) (fun c102 => ?_)
    · skip
      obtain ⟨hz1, hz2, -, -⟩ := su_gs0 (su_nz c102)
      obtain ⟨c9, hc9, e3⟩ := su_in_ti (b := 6) (by decide) (su_an8l hz2)
      have hgz : (su_gs (su_rk p1 n (su_tn p3)) (su_an8 (su_in p3 0 6) (su_ro p1 (su_tn p3))) 1 1) = 0 := su_nz c102
      have hkn : ∀ i, i < c9 → bn p1 i < n := fun i hi => by
        obtain ⟨j, hj, e⟩ := su_hin hn40 (su_rk_all hz1 i (by rw [e3, su_tn_c hc9]; exact hi))
        rw [nI_eq (Nat.lt_trans (bn_lt p1 i) (by decide)) (by omega)] at e
        omega
      have h6c := su_pw6 hc9
      rw [e3] at hl
      obtain ⟨N6, hN6⟩ : ∃ N6 : Nat, N6 = 6 ^ c9 := ⟨_, rfl⟩
      rw [← hN6] at h6c
      have main : ∀ (n9 cd : Nat), cd + n9 = N6 → ∀ (lv : Int32) (f15 f16 f17 : Nat → Int32) (Pk : pm_T) (H : Heap) (locs : List Loc) (ls : Array Slot), (∀ i, i < c9 → f15 i = nI (bn p1 i)) → su_rb (su_rM mv p1 c9) (su_rS p1 c9) c9 cd f17 lv → md_W Pk ac h0 ma (va_up (va_up (va_up mv 15 f15) 16 f16) 17 f17) (su_gs (su_rk p1 n (su_tn p3)) (su_an8 (su_in p3 0 6) (su_ro p1 (su_tn p3))) 1 1) (nI n) al (nI t) (nI c9) → md_F P Pk h0 ma → pm_W z D cl_w Pk s.heap H locs → lv_has ls 11 [(8, .int (nI cd)), (7, .int lv), (6, .int (nI N6)), (0, .ref h0), (1, .long p1), (3, .int (nI c9))] → W p l e ({ frames := 4, cells := 0, slots := 0, locals := 120 } : Room) s m ([.ref h0, .long p1, .int p3] : List Value).toArray below meth c H locs 0 0 (MQ below (cx_Q z D (fun v P' => ((su_gs (su_rk p1 n (su_tn p3)) (su_an8 (su_in p3 0 6) (su_ro p1 (su_tn p3))) 1 1) = 0 → ∃ (c9 : Nat) (f15 f16 f17 : Nat → Int32) (v0 : Int32), p3 = nI c9 ∧ c9 ≤ 6 ∧ v = some (.int v0) ∧ su_rb (su_rM mv p1 c9) (su_rS p1 c9) c9 (6 ^ c9) f17 v0 ∧ md_W P' ac h0 ma (va_up (va_up (va_up mv 15 f15) 16 f16) 17 f17) (su_gs (su_rk p1 n (su_tn p3)) (su_an8 (su_in p3 0 6) (su_ro p1 (su_tn p3))) 1 1) (nI n) al (nI t) (nI c9)) ∧ (¬ (su_gs (su_rk p1 n (su_tn p3)) (su_an8 (su_in p3 0 6) (su_ro p1 (su_tn p3))) 1 1) = 0 → v = some (.int 0) ∧ md_W P' ac h0 ma mv (su_gs (su_rk p1 n (su_tn p3)) (su_an8 (su_in p3 0 6) (su_ro p1 (su_tn p3))) 1 1) (nI n) al (nI t) so) ∧ md_F P P' h0 ma)) ([.ref h0, .long p1, .int p3] : List Value).toArray s ({ frames := 4, cells := 0, slots := 0, locals := 120 } : Room).cells ({ frames := 4, cells := 0, slots := 0, locals := 120 } : Room).slots (pm_A z)) (F0 m 190 ls []) := by
        intro n9
        induction n9 with
        | zero =>
          intro cd hcd lv f15 f16 f17 Pk H locs ls h15 hrb mwk mfk hw hl
          have hcd : cd = N6 := by omega
          refine lv_iload hx hb dd_M_round_190 (lv_at hl 0 rfl) ?_
          refine lv_iload hx hb dd_M_round_192 (lv_at hl 2 rfl) ?_
          refine lv_icmp_ge (tgt := 286) hx hb dd_M_round_194 (by decide) (fun c103 => ?_) (fun c103 => absurd (by rw [hcd]; exact Int32.le_refl _) c103)
          refine lv_iload hx hb dd_M_round_286 (lv_at hl 1 rfl) ?_
          refine cx_iret (v := lv) hx hb hr rfl hlocks hw dd_M_round_288 (by decide) (by decide) ?_
          exact ⟨fun _ => ⟨c9, f15, f16, f17, lv, e3, hc9, rfl, by rw [← hN6, ← hcd]; exact hrb, mwk⟩, fun h8 => absurd hgz h8, mfk⟩
        | succ n9 ih =>
          intro cd hcd lv f15 f16 f17 Pk H locs ls h15 hrb mwk mfk hw hl
          have hlt : cd < N6 := by omega
          refine lv_iload hx hb dd_M_round_190 (lv_at hl 0 rfl) ?_
          refine lv_iload hx hb dd_M_round_192 (lv_at hl 2 rfl) ?_
          refine lv_icmp_ge (tgt := 286) hx hb dd_M_round_194 (by decide) (fun c104 => absurd c104 (nI_ge hlt (by omega))) (fun c104 => ?_)
          refine lv_aload_n hx hb dd_M_round_197 rfl (lv_at hl 3 rfl) ?_
          refine lv_iload_n hx hb dd_M_round_198 rfl (lv_at hl 5 rfl) ?_
          refine lv_iload hx hb dd_M_round_199 (lv_at hl 0 rfl) ?_
          refine cx_after (cx_rV (n := 2) (As := [.int (nI c9), .int (nI cd)]) (rest := []) ⟨hx, hb, hml, hown, hg⟩ (c_M_arranges l z D ac sa Pk h0 ma (va_up (va_up (va_up mv 15 f15) 16 f16) 17 f17) (su_gs (su_rk p1 n (su_tn p3)) (su_an8 (su_in p3 0 6) (su_ro p1 (su_tn p3))) 1 1) al (nI c9) n t hn40 ht100 c9 hc9 cd (by omega) mwk) (cx_gv gm_M_138 gi_M_arranges gs_M_arranges gn_M gc_M_arranges) (by decide +kernel) ⟨by decide, by decide⟩ hK hw mwk.1 rfl rfl hl.1 rfl (Nat.le_of_ble_eq_true rfl) dd_M_round_201 ⟨by decide, by decide⟩) hw (fun v9 P9 H locs hp hw => ?_)
          obtain ⟨f8, mw8, mf8, h8⟩ := hp
          rw [va_3] at mw8
          have mf9 := md_F.tr mfk mf8
          rcases h8 with ⟨hog, e8, hf8⟩ | ⟨hng, e8⟩
          · subst e8
            refine W.eq (g2 := F0 m 204 ls [.int (1 : Int32)]) rfl ?_
            have htr : ∀ i, i < c9 → (fun i => bn p1 (su_dg c9 cd i)) i < 40 ∧ (va_up (va_up (va_up mv 15 f15) 16 f8) 17 f17) 16 i = nI ((fun i => bn p1 (su_dg c9 cd i)) i) := fun i hi => ⟨by have := hkn _ (hog.1 i hi); show bn p1 (su_dg c9 cd i) < 40; omega, by show f8 i = _; rw [hf8 i hi]; exact h15 _ (hog.1 i hi)⟩
            have hS : ∀ i, i < c9 → f8 i = (su_rS p1 c9) cd i := fun i hi => (htr i hi).2
            have hMe : su_met (va_up (va_up (va_up mv 15 f15) 16 f8) 17 f17) (fun i => bn p1 (su_dg c9 cd i)) c9 = (su_rM mv p1 c9) cd := su_met_cg rfl rfl
            have copy : ∀ (n7 k : Nat), k + n7 = c9 → ∀ (x9 : Int32) (g7 : Nat → Int32) (Pk : pm_T) (H : Heap) (locs : List Loc) (ls : Array Slot), (∀ i, i < k → g7 i = f8 i) → (∀ q : Nat → Int32, (∀ i, i < c9 → q i = (su_rS p1 c9) cd i) → su_rb (su_rM mv p1 c9) (su_rS p1 c9) c9 (cd + 1) q x9) → md_W Pk ac h0 ma (va_up (va_up (va_up mv 15 f15) 16 f8) 17 g7) (su_gs (su_rk p1 n (su_tn p3)) (su_an8 (su_in p3 0 6) (su_ro p1 (su_tn p3))) 1 1) (nI n) al (nI t) (nI c9) → md_F P Pk h0 ma → pm_W z D cl_w Pk s.heap H locs → lv_has ls 11 [(10, .int (nI k)), (7, .int x9), (8, .int (nI cd)), (6, .int (nI N6)), (0, .ref h0), (1, .long p1), (3, .int (nI c9))] → W p l e ({ frames := 4, cells := 0, slots := 0, locals := 120 } : Room) s m ([.ref h0, .long p1, .int p3] : List Value).toArray below meth c H locs 0 0 (MQ below (cx_Q z D (fun v P' => ((su_gs (su_rk p1 n (su_tn p3)) (su_an8 (su_in p3 0 6) (su_ro p1 (su_tn p3))) 1 1) = 0 → ∃ (c9 : Nat) (f15 f16 f17 : Nat → Int32) (v0 : Int32), p3 = nI c9 ∧ c9 ≤ 6 ∧ v = some (.int v0) ∧ su_rb (su_rM mv p1 c9) (su_rS p1 c9) c9 (6 ^ c9) f17 v0 ∧ md_W P' ac h0 ma (va_up (va_up (va_up mv 15 f15) 16 f16) 17 f17) (su_gs (su_rk p1 n (su_tn p3)) (su_an8 (su_in p3 0 6) (su_ro p1 (su_tn p3))) 1 1) (nI n) al (nI t) (nI c9)) ∧ (¬ (su_gs (su_rk p1 n (su_tn p3)) (su_an8 (su_in p3 0 6) (su_ro p1 (su_tn p3))) 1 1) = 0 → v = some (.int 0) ∧ md_W P' ac h0 ma mv (su_gs (su_rk p1 n (su_tn p3)) (su_an8 (su_in p3 0 6) (su_ro p1 (su_tn p3))) 1 1) (nI n) al (nI t) so) ∧ md_F P P' h0 ma)) ([.ref h0, .long p1, .int p3] : List Value).toArray s ({ frames := 4, cells := 0, slots := 0, locals := 120 } : Room).cells ({ frames := 4, cells := 0, slots := 0, locals := 120 } : Room).slots (pm_A z)) (F0 m 254 ls []) := by
              intro n7
              induction n7 with
              | zero =>
                intro k hk x9 g7 Pk H locs ls hg7 hrq mwc mfc hw hl
                have hk : k = c9 := by omega
                refine lv_iload hx hb dd_M_round_254 (lv_at hl 0 rfl) ?_
                refine lv_iload_n hx hb dd_M_round_256 rfl (lv_at hl 6 rfl) ?_
                refine lv_icmp_ge (tgt := 280) hx hb dd_M_round_257 (by decide) (fun c105 => ?_) (fun c105 => absurd (by rw [hk]; exact Int32.le_refl _) c105)
                obtain ⟨x106, ex106⟩ : ∃ y : Int32, y = (nI cd) + 1 := ⟨_, rfl⟩
                refine lv_iinc (v := x106) (lv' := [(8, .int x106), (10, .int (nI k)), (7, .int x9), (6, .int (nI N6)), (0, .ref h0), (1, .long p1), (3, .int (nI c9))]) hx hb dd_M_round_280 hl (k := 2) rfl (by rw [ex106]; rfl) (by decide) rfl (fun ls hl => ?_)
                refine lv_goto (tgt := 190) hx hb dd_M_round_283 (by decide) ?_
                have hi7 : x106 = nI (cd + 1) := by rw [ex106]; exact nI_1 cd
                rw [hi7] at hl
                exact ih (cd + 1) (by omega) x9 f15 f8 g7 Pk H _ ls h15 (hrq g7 (fun i hi => by rw [hg7 i (by omega)]; exact hS i hi)) mwc mfc hw (lv_sub hl [0, 2, 3, 4, 5, 6] rfl)
              | succ n7 kh =>
                intro k hk x9 g7 Pk H locs ls hg7 hrq mwc mfc hw hl
                have hkc : k < c9 := by omega
                refine lv_iload hx hb dd_M_round_254 (lv_at hl 0 rfl) ?_
                refine lv_iload_n hx hb dd_M_round_256 rfl (lv_at hl 6 rfl) ?_
                refine lv_icmp_ge (tgt := 280) hx hb dd_M_round_257 (by decide) (fun c107 => absurd c107 (nI_ge hkc (by omega))) (fun c107 => ?_)
                refine lv_aload_n hx hb dd_M_round_260 rfl (lv_at hl 4 rfl) ?_
                refine pm_get (ci := 6) (C := cn_M) (T := cf_M) (N := 23) (v := .ref (ma 17)) hx hb hg gu_M hown hK.2.1 hw mwc.1 rfl 22 (by decide) (hg _ gf_M_62) (fun _ h9 => h9) rfl dd_M_round_261 ?_
                refine lv_iload hx hb dd_M_round_264 (lv_at hl 0 rfl) ?_
                refine lv_aload_n hx hb dd_M_round_266 rfl (lv_at hl 4 rfl) ?_
                refine pm_get (ci := 6) (C := cn_M) (T := cf_M) (N := 23) (v := .ref (ma 16)) hx hb hg gu_M hown hK.2.1 hw mwc.1 rfl 21 (by decide) (hg _ gf_M_59) (fun _ h9 => h9) rfl dd_M_round_267 ?_
                refine lv_iload hx hb dd_M_round_270 (lv_at hl 0 rfl) ?_
                refine pm_iald hx hb hK.2.1 hw 0 (show Pk (ma 16) = some (.inl (ac 0, 6, .inl ((va_up (va_up (va_up mv 15 f15) 16 f8) 17 g7) 16))) from mwc.2.1 16 (by decide)) rfl (vp_in_nI (by omega) (by decide)) dd_M_round_272 ?_
                refine W.eq (g2 := F0 m 273 ls [.int (f8 k), .int (nI k), .ref (ma 17)]) (by rw [show (((va_up (va_up (va_up mv 15 f15) 16 f8) 17 g7) 16) ((nI k).toNatClampNeg)) = (f8 k) from by rw [nI_clamp (by omega)]; rfl]) ?_
                refine pm_iast (x := (f8 k)) hx hb hK.2.1 hw 0 (show Pk (ma 17) = some (.inl (ac 0, 6, .inl ((va_up (va_up (va_up mv 15 f15) 16 f8) 17 g7) 17))) from mwc.2.1 17 (by decide)) rfl (vp_in_nI (by omega) (by decide)) dd_M_round_273 (fun H locs hw => ?_)
                obtain ⟨P108, eP108⟩ : ∃ pmv : pm_T, pmv = pm_up Pk (ma 17) (md_a ac 17 (upd ((va_up (va_up (va_up mv 15 f15) 16 f8) 17 g7) 17) ((nI k).toNatClampNeg) (f8 k))) := ⟨_, rfl⟩
                have hw : pm_W z D cl_w (pm_up Pk (ma 17) (md_a ac 17 (upd ((va_up (va_up (va_up mv 15 f15) 16 f8) 17 g7) 17) ((nI k).toNatClampNeg) (f8 k)))) s.heap H _ := hw
                rw [← eP108] at hw
                have mwP108 : md_W P108 ac h0 ma (va_up (va_up (va_up (va_up mv 15 f15) 16 f8) 17 g7) 17 (upd ((va_up (va_up (va_up mv 15 f15) 16 f8) 17 g7) 17) ((nI k).toNatClampNeg) (f8 k))) (su_gs (su_rk p1 n (su_tn p3)) (su_an8 (su_in p3 0 6) (su_ro p1 (su_tn p3))) 1 1) (nI n) al (nI t) (nI c9) := by rw [eP108]; exact md_W.put mwc 17 (by decide)
                have mfP108 : md_F P P108 h0 ma := by rw [eP108]; exact md_F.put (by decide) mfc
                obtain ⟨x109, ex109⟩ : ∃ y : Int32, y = (nI k) + 1 := ⟨_, rfl⟩
                refine lv_iinc (v := x109) (lv' := [(10, .int x109), (7, .int x9), (8, .int (nI cd)), (6, .int (nI N6)), (0, .ref h0), (1, .long p1), (3, .int (nI c9))]) hx hb dd_M_round_274 hl (k := 0) rfl (by rw [ex109]; rfl) (by decide) rfl (fun ls hl => ?_)
                refine lv_goto (tgt := 254) hx hb dd_M_round_277 (by decide) ?_
                have hi7 : x109 = nI (k + 1) := by rw [ex109]; exact nI_1 k
                rw [hi7] at hl
                rw [va_uu, va_us, nI_clamp (show k < 2 ^ 31 by omega)] at mwP108
                refine kh (k + 1) (by omega) x9 (upd g7 k (f8 k)) P108 H _ ls (fun i hi => ?_) hrq mwP108 mfP108 hw (lv_sub hl [0, 1, 2, 3, 4, 5, 6] rfl)
                by_cases hik : i = k
                · rw [hik, pk_us]
                · rw [pk_un hik]; exact hg7 i (by omega)
            refine lv_if_ne (tgt := 210) hx hb dd_M_round_204 (by decide) (fun c110 => ?_) (fun c110 => absurd c110 (by decide))
            refine lv_aload_n hx hb dd_M_round_210 rfl (lv_at hl 3 rfl) ?_
            refine lv_iload_n hx hb dd_M_round_211 rfl (lv_at hl 5 rfl) ?_
            refine cx_after (cx_rV (n := 1) (As := [.int (nI c9)]) (rest := []) ⟨hx, hb, hml, hown, hg⟩ (c_M_metres l z D ac sa P9 h0 ma (va_up (va_up (va_up mv 15 f15) 16 f8) 17 f17) (su_gs (su_rk p1 n (su_tn p3)) (su_an8 (su_in p3 0 6) (su_ro p1 (su_tn p3))) 1 1) al (nI c9) n t hn40 ht100 c9 hc9 (fun i => bn p1 (su_dg c9 cd i)) htr mw8) (cx_gv gm_M_141 gi_M_metres gs_M_metres gn_M gc_M_metres) (by decide +kernel) ⟨by decide, by decide⟩ hK hw mw8.1 rfl rfl hl.1 rfl (Nat.le_of_ble_eq_true rfl) dd_M_round_212 ⟨by decide, by decide⟩) hw (fun v9 P9 H locs hp hw => ?_)
            obtain ⟨rfl, e9⟩ := hp
            rw [e9] at hw
            clear e9 P9
            refine W.eq (g2 := F0 m 215 ls [.int (su_met (va_up (va_up (va_up mv 15 f15) 16 f8) 17 f17) (fun i => bn p1 (su_dg c9 cd i)) c9)]) rfl ?_
            refine W.eq (g2 := F0 m 215 ls [.int ((su_rM mv p1 c9) cd)]) (by rw [show (su_met (va_up (va_up (va_up mv 15 f15) 16 f8) 17 f17) (fun i => bn p1 (su_dg c9 cd i)) c9) = ((su_rM mv p1 c9) cd) from hMe]) ?_
            refine lv_topi (fun x111 ex111 => ?_)
            refine lv_istore (lv' := [(9, .int x111), (8, .int (nI cd)), (7, .int lv), (6, .int (nI N6)), (0, .ref h0), (1, .long p1), (3, .int (nI c9))]) hx hb dd_M_round_215 hl (by decide) rfl (fun ls hl => ?_)
            refine lv_iload hx hb dd_M_round_217 (lv_at hl 2 rfl) ?_
            refine lv_if_lt (tgt := 247) hx hb dd_M_round_219 (by decide) (fun c112 => ?_) (fun c112 => ?_)
            · skip
              refine lv_iload hx hb dd_M_round_247 (lv_at hl 0 rfl) ?_
              refine lv_istore (lv' := [(7, .int x111), (9, .int x111), (8, .int (nI cd)), (6, .int (nI N6)), (0, .ref h0), (1, .long p1), (3, .int (nI c9))]) hx hb dd_M_round_249 hl (by decide) rfl (fun ls hl => ?_)
              refine lv_iconst (v := 0) hx hb dd_M_round_251 (by decide) ?_
              refine lv_istore (lv' := [(10, .int (0 : Int32)), (7, .int x111), (9, .int x111), (8, .int (nI cd)), (6, .int (nI N6)), (0, .ref h0), (1, .long p1), (3, .int (nI c9))]) hx hb dd_M_round_252 hl (by decide) rfl (fun ls hl => ?_)
              exact copy c9 0 (Nat.zero_add c9) x111 f17 P9 _ _ ls (fun i hi => absurd hi (Nat.not_lt_zero i)) (fun q hq => by rw [ex111]; exact su_rb_first hrb c112 (fun cd h => hM c9 cd hc9 hkn h) hog hq) mw8 mf9 hw (lv_sub hl [0, 1, 3, 4, 5, 6, 7] rfl)
            · skip
              refine lv_iload hx hb dd_M_round_222 (lv_at hl 0 rfl) ?_
              refine lv_iload hx hb dd_M_round_224 (lv_at hl 2 rfl) ?_
              refine lv_icmp_gt (tgt := 280) hx hb dd_M_round_226 (by decide) (fun c113 => ?_) (fun c113 => ?_)
              · skip
                obtain ⟨x114, ex114⟩ : ∃ y : Int32, y = (nI cd) + 1 := ⟨_, rfl⟩
                refine lv_iinc (v := x114) (lv' := [(8, .int x114), (9, .int x111), (7, .int lv), (6, .int (nI N6)), (0, .ref h0), (1, .long p1), (3, .int (nI c9))]) hx hb dd_M_round_280 hl (k := 1) rfl (by rw [ex114]; rfl) (by decide) rfl (fun ls hl => ?_)
                refine lv_goto (tgt := 190) hx hb dd_M_round_283 (by decide) ?_
                have hi7 : x114 = nI (cd + 1) := by rw [ex114]; exact nI_1 cd
                rw [hi7] at hl
                exact ih (cd + 1) (by omega) lv f15 f8 f17 P9 H _ ls h15 (su_rb_skip hrb c112 ⟨by rw [← ex111]; exact Int32.not_lt.mpr (Int32.le_of_lt c113), fun h => by rw [← ex111] at h; rw [h] at c113; exact absurd c113 (su_irr _)⟩) mw8 mf9 hw (lv_sub hl [0, 2, 3, 4, 5, 6] rfl)
              · skip
                refine lv_iload hx hb dd_M_round_229 (lv_at hl 0 rfl) ?_
                refine lv_iload hx hb dd_M_round_231 (lv_at hl 2 rfl) ?_
                refine lv_icmp_ne (tgt := 247) hx hb dd_M_round_233 (by decide) (fun c115 => ?_) (fun c115 => ?_)
                · skip
                  refine lv_iload hx hb dd_M_round_247 (lv_at hl 0 rfl) ?_
                  refine lv_istore (lv' := [(7, .int x111), (9, .int x111), (8, .int (nI cd)), (6, .int (nI N6)), (0, .ref h0), (1, .long p1), (3, .int (nI c9))]) hx hb dd_M_round_249 hl (by decide) rfl (fun ls hl => ?_)
                  refine lv_iconst (v := 0) hx hb dd_M_round_251 (by decide) ?_
                  refine lv_istore (lv' := [(10, .int (0 : Int32)), (7, .int x111), (9, .int x111), (8, .int (nI cd)), (6, .int (nI N6)), (0, .ref h0), (1, .long p1), (3, .int (nI c9))]) hx hb dd_M_round_252 hl (by decide) rfl (fun ls hl => ?_)
                  exact copy c9 0 (Nat.zero_add c9) x111 f17 P9 _ _ ls (fun i hi => absurd hi (Nat.not_lt_zero i)) (fun q hq => by rw [ex111]; exact su_rb_less hrb c112 hog (by rw [← ex111]; exact su_lt_of c113 c115) hq) mw8 mf9 hw (lv_sub hl [0, 1, 3, 4, 5, 6, 7] rfl)
                · skip
                  refine lv_aload_n hx hb dd_M_round_236 rfl (lv_at hl 4 rfl) ?_
                  refine lv_iload_n hx hb dd_M_round_237 rfl (lv_at hl 6 rfl) ?_
                  refine cx_after (cx_rV (n := 1) (As := [.int (nI c9)]) (rest := []) ⟨hx, hb, hml, hown, hg⟩ (c_M_isAhead l z D ac sa P9 h0 ma (va_up (va_up (va_up mv 15 f15) 16 f8) 17 f17) (su_gs (su_rk p1 n (su_tn p3)) (su_an8 (su_in p3 0 6) (su_ro p1 (su_tn p3))) 1 1) al (nI c9) n t hn40 ht100 c9 hc9 mw8) (cx_gv gm_M_144 gi_M_isAhead gs_M_isAhead gn_M gc_M_isAhead) (by decide +kernel) ⟨by decide, by decide⟩ hK hw mw8.1 rfl rfl hl.1 rfl (Nat.le_of_ble_eq_true rfl) dd_M_round_238 ⟨by decide, by decide⟩) hw (fun v9 P9 H locs hp hw => ?_)
                  obtain ⟨rfl, e9⟩ := hp
                  rw [e9] at hw
                  clear e9 P9
                  refine W.eq (g2 := F0 m 241 ls [.int (su_ahf f8 f17 c9 0)]) rfl ?_
                  refine lv_if_ne (tgt := 247) hx hb dd_M_round_241 (by decide) (fun c116 => ?_) (fun c116 => ?_)
                  · skip
                    refine lv_iload hx hb dd_M_round_247 (lv_at hl 0 rfl) ?_
                    refine lv_istore (lv' := [(7, .int x111), (9, .int x111), (8, .int (nI cd)), (6, .int (nI N6)), (0, .ref h0), (1, .long p1), (3, .int (nI c9))]) hx hb dd_M_round_249 hl (by decide) rfl (fun ls hl => ?_)
                    refine lv_iconst (v := 0) hx hb dd_M_round_251 (by decide) ?_
                    refine lv_istore (lv' := [(10, .int (0 : Int32)), (7, .int x111), (9, .int x111), (8, .int (nI cd)), (6, .int (nI N6)), (0, .ref h0), (1, .long p1), (3, .int (nI c9))]) hx hb dd_M_round_252 hl (by decide) rfl (fun ls hl => ?_)
                    exact copy c9 0 (Nat.zero_add c9) x111 f17 P9 _ _ ls (fun i hi => absurd hi (Nat.not_lt_zero i)) (fun q hq => by rw [ex111]; exact su_rb_lex hrb c112 hog (by rw [← ex111]; exact c115) (by rw [show su_ahf ((su_rS p1 c9) cd) f17 c9 0 = su_ahf f8 f17 c9 0 from su_ahf_cg (fun k _ hk => ⟨(hS k (by omega)).symm, rfl⟩)]; exact c116) hq) mw8 mf9 hw (lv_sub hl [0, 1, 3, 4, 5, 6, 7] rfl)
                  · skip
                    refine lv_goto (tgt := 280) hx hb dd_M_round_244 (by decide) ?_
                    obtain ⟨x117, ex117⟩ : ∃ y : Int32, y = (nI cd) + 1 := ⟨_, rfl⟩
                    refine lv_iinc (v := x117) (lv' := [(8, .int x117), (9, .int x111), (7, .int lv), (6, .int (nI N6)), (0, .ref h0), (1, .long p1), (3, .int (nI c9))]) hx hb dd_M_round_280 hl (k := 1) rfl (by rw [ex117]; rfl) (by decide) rfl (fun ls hl => ?_)
                    refine lv_goto (tgt := 190) hx hb dd_M_round_283 (by decide) ?_
                    have hi7 : x117 = nI (cd + 1) := by rw [ex117]; exact nI_1 cd
                    rw [hi7] at hl
                    exact ih (cd + 1) (by omega) lv f15 f8 f17 P9 H _ ls h15 (su_rb_skip hrb c112 ⟨by rw [← ex111, c115]; exact su_irr _, fun _ => by rw [show su_ahf ((su_rS p1 c9) cd) f17 c9 0 = su_ahf f8 f17 c9 0 from su_ahf_cg (fun k _ hk => ⟨(hS k (by omega)).symm, rfl⟩)]; exact c116⟩) mw8 mf9 hw (lv_sub hl [0, 2, 3, 4, 5, 6] rfl)
          · subst e8
            refine W.eq (g2 := F0 m 204 ls [.int (0 : Int32)]) rfl ?_
            refine lv_if_ne (tgt := 210) hx hb dd_M_round_204 (by decide) (fun c118 => absurd (by decide) c118) (fun c118 => ?_)
            refine lv_goto (tgt := 280) hx hb dd_M_round_207 (by decide) ?_
            obtain ⟨x119, ex119⟩ : ∃ y : Int32, y = (nI cd) + 1 := ⟨_, rfl⟩
            refine lv_iinc (v := x119) (lv' := [(8, .int x119), (7, .int lv), (6, .int (nI N6)), (0, .ref h0), (1, .long p1), (3, .int (nI c9))]) hx hb dd_M_round_280 hl (k := 0) rfl (by rw [ex119]; rfl) (by decide) rfl (fun ls hl => ?_)
            refine lv_goto (tgt := 190) hx hb dd_M_round_283 (by decide) ?_
            have hi7 : x119 = nI (cd + 1) := by rw [ex119]; exact nI_1 cd
            rw [hi7] at hl
            exact ih (cd + 1) (by omega) lv f15 f8 f17 P9 H _ ls h15 (su_rb_no hrb hng) mw8 mf9 hw (lv_sub hl [0, 1, 2, 3, 4, 5] rfl)
      have pow : ∀ (n9 k : Nat), k + n9 = c9 → ∀ (f15 : Nat → Int32) (Pk : pm_T) (H : Heap) (locs : List Loc) (ls : Array Slot), (∀ i, i < c9 → f15 i = nI (bn p1 i)) → md_W Pk ac h0 ma (va_up mv 15 f15) (su_gs (su_rk p1 n (su_tn p3)) (su_an8 (su_in p3 0 6) (su_ro p1 (su_tn p3))) 1 1) (nI n) al (nI t) (nI c9) → md_F P Pk h0 ma → pm_W z D cl_w Pk s.heap H locs → lv_has ls 11 [(7, .int (nI k)), (6, .int (nI (6 ^ k))), (0, .ref h0), (1, .long p1), (3, .int (nI c9))] → W p l e ({ frames := 4, cells := 0, slots := 0, locals := 120 } : Room) s m ([.ref h0, .long p1, .int p3] : List Value).toArray below meth c H locs 0 0 (MQ below (cx_Q z D (fun v P' => ((su_gs (su_rk p1 n (su_tn p3)) (su_an8 (su_in p3 0 6) (su_ro p1 (su_tn p3))) 1 1) = 0 → ∃ (c9 : Nat) (f15 f16 f17 : Nat → Int32) (v0 : Int32), p3 = nI c9 ∧ c9 ≤ 6 ∧ v = some (.int v0) ∧ su_rb (su_rM mv p1 c9) (su_rS p1 c9) c9 (6 ^ c9) f17 v0 ∧ md_W P' ac h0 ma (va_up (va_up (va_up mv 15 f15) 16 f16) 17 f17) (su_gs (su_rk p1 n (su_tn p3)) (su_an8 (su_in p3 0 6) (su_ro p1 (su_tn p3))) 1 1) (nI n) al (nI t) (nI c9)) ∧ (¬ (su_gs (su_rk p1 n (su_tn p3)) (su_an8 (su_in p3 0 6) (su_ro p1 (su_tn p3))) 1 1) = 0 → v = some (.int 0) ∧ md_W P' ac h0 ma mv (su_gs (su_rk p1 n (su_tn p3)) (su_an8 (su_in p3 0 6) (su_ro p1 (su_tn p3))) 1 1) (nI n) al (nI t) so) ∧ md_F P P' h0 ma)) ([.ref h0, .long p1, .int p3] : List Value).toArray s ({ frames := 4, cells := 0, slots := 0, locals := 120 } : Room).cells ({ frames := 4, cells := 0, slots := 0, locals := 120 } : Room).slots (pm_A z)) (F0 m 165 ls []) := by
        intro n9
        induction n9 with
        | zero =>
          intro k hk f15 Pk H locs ls h15 mwk mfk hw hl
          have hk : k = c9 := by omega
          refine lv_iload hx hb dd_M_round_165 (lv_at hl 0 rfl) ?_
          refine lv_iload_n hx hb dd_M_round_167 rfl (lv_at hl 4 rfl) ?_
          refine lv_icmp_ge (tgt := 184) hx hb dd_M_round_168 (by decide) (fun c120 => ?_) (fun c120 => absurd (by rw [hk]; exact Int32.le_refl _) c120)
          refine lv_iconst (v := (-1)) hx hb dd_M_round_184 (by decide) ?_
          refine lv_istore (lv' := [(7, .int (-1 : Int32)), (6, .int (nI (6 ^ k))), (0, .ref h0), (1, .long p1), (3, .int (nI c9))]) hx hb dd_M_round_185 hl (by decide) rfl (fun ls hl => ?_)
          refine lv_iconst (v := 0) hx hb dd_M_round_187 (by decide) ?_
          refine lv_istore (lv' := [(8, .int (0 : Int32)), (7, .int (-1 : Int32)), (6, .int (nI (6 ^ k))), (0, .ref h0), (1, .long p1), (3, .int (nI c9))]) hx hb dd_M_round_188 hl (by decide) rfl (fun ls hl => ?_)
          rw [hk, ← hN6] at hl
          exact main N6 0 (Nat.zero_add N6) (-1) f15 (mv 16) (mv 17) Pk _ _ ls h15 (.inl ⟨rfl, fun cd h => absurd h (Nat.not_lt_zero cd)⟩) (by rw [show va_up (va_up (va_up mv 15 f15) 16 (mv 16)) 17 (mv 17) = va_up mv 15 f15 from va_4]; exact mwk) mfk hw (lv_sub hl [0, 1, 2, 3, 4, 5] rfl)
        | succ n9 ih =>
          intro k hk f15 Pk H locs ls h15 mwk mfk hw hl
          have hkc : k < c9 := by omega
          refine lv_iload hx hb dd_M_round_165 (lv_at hl 0 rfl) ?_
          refine lv_iload_n hx hb dd_M_round_167 rfl (lv_at hl 4 rfl) ?_
          refine lv_icmp_ge (tgt := 184) hx hb dd_M_round_168 (by decide) (fun c121 => absurd c121 (nI_ge hkc (by omega))) (fun c121 => ?_)
          refine lv_bipush (v := 6) hx hb dd_M_round_171 (by decide) ?_
          refine lv_iload hx hb dd_M_round_173 (lv_at hl 1 rfl) ?_
          refine lv_imul hx hb dd_M_round_175 ?_
          refine lv_topi (fun x122 ex122 => ?_)
          refine lv_istore (lv' := [(6, .int x122), (7, .int (nI k)), (0, .ref h0), (1, .long p1), (3, .int (nI c9))]) hx hb dd_M_round_176 hl (by decide) rfl (fun ls hl => ?_)
          obtain ⟨x123, ex123⟩ : ∃ y : Int32, y = (nI k) + 1 := ⟨_, rfl⟩
          refine lv_iinc (v := x123) (lv' := [(7, .int x123), (6, .int x122), (0, .ref h0), (1, .long p1), (3, .int (nI c9))]) hx hb dd_M_round_178 hl (k := 1) rfl (by rw [ex123]; rfl) (by decide) rfl (fun ls hl => ?_)
          refine lv_goto (tgt := 165) hx hb dd_M_round_181 (by decide) ?_
          have hi7 : x123 = nI (k + 1) := by rw [ex123]; exact nI_1 k
          rw [hi7] at hl
          have hi6 : x122 = nI (6 ^ (k + 1)) := by rw [ex122, show (6 : Int32) = nI 6 from rfl, nI_mul, Nat.pow_succ, Nat.mul_comm]
          rw [hi6] at hl
          exact ih (k + 1) (by omega) f15 Pk H _ ls h15 mwk mfk hw (lv_sub hl [0, 1, 2, 3, 4] rfl)
      have told : ∀ (n9 k : Nat), k + n9 = c9 → ∀ (f15 : Nat → Int32) (Pk : pm_T) (H : Heap) (locs : List Loc) (ls : Array Slot), (∀ i, i < k → f15 i = nI (bn p1 i)) → md_W Pk ac h0 ma (va_up mv 15 f15) (su_gs (su_rk p1 n (su_tn p3)) (su_an8 (su_in p3 0 6) (su_ro p1 (su_tn p3))) 1 1) (nI n) al (nI t) (nI c9) → md_F P Pk h0 ma → pm_W z D cl_w Pk s.heap H locs → lv_has ls 11 [(6, .int (nI k)), (0, .ref h0), (1, .long p1), (3, .int (nI c9))] → W p l e ({ frames := 4, cells := 0, slots := 0, locals := 120 } : Room) s m ([.ref h0, .long p1, .int p3] : List Value).toArray below meth c H locs 0 0 (MQ below (cx_Q z D (fun v P' => ((su_gs (su_rk p1 n (su_tn p3)) (su_an8 (su_in p3 0 6) (su_ro p1 (su_tn p3))) 1 1) = 0 → ∃ (c9 : Nat) (f15 f16 f17 : Nat → Int32) (v0 : Int32), p3 = nI c9 ∧ c9 ≤ 6 ∧ v = some (.int v0) ∧ su_rb (su_rM mv p1 c9) (su_rS p1 c9) c9 (6 ^ c9) f17 v0 ∧ md_W P' ac h0 ma (va_up (va_up (va_up mv 15 f15) 16 f16) 17 f17) (su_gs (su_rk p1 n (su_tn p3)) (su_an8 (su_in p3 0 6) (su_ro p1 (su_tn p3))) 1 1) (nI n) al (nI t) (nI c9)) ∧ (¬ (su_gs (su_rk p1 n (su_tn p3)) (su_an8 (su_in p3 0 6) (su_ro p1 (su_tn p3))) 1 1) = 0 → v = some (.int 0) ∧ md_W P' ac h0 ma mv (su_gs (su_rk p1 n (su_tn p3)) (su_an8 (su_in p3 0 6) (su_ro p1 (su_tn p3))) 1 1) (nI n) al (nI t) so) ∧ md_F P P' h0 ma)) ([.ref h0, .long p1, .int p3] : List Value).toArray s ({ frames := 4, cells := 0, slots := 0, locals := 120 } : Room).cells ({ frames := 4, cells := 0, slots := 0, locals := 120 } : Room).slots (pm_A z)) (F0 m 129 ls []) := by
        intro n9
        induction n9 with
        | zero =>
          intro k hk f15 Pk H locs ls h15 mwk mfk hw hl
          have hk : k = c9 := by omega
          refine lv_iload hx hb dd_M_round_129 (lv_at hl 0 rfl) ?_
          refine lv_iload_n hx hb dd_M_round_131 rfl (lv_at hl 3 rfl) ?_
          refine lv_icmp_ge (tgt := 159) hx hb dd_M_round_132 (by decide) (fun c124 => ?_) (fun c124 => absurd (by rw [hk]; exact Int32.le_refl _) c124)
          refine lv_iconst (v := 1) hx hb dd_M_round_159 (by decide) ?_
          refine lv_istore (lv' := [(6, .int (1 : Int32)), (0, .ref h0), (1, .long p1), (3, .int (nI c9))]) hx hb dd_M_round_160 hl (by decide) rfl (fun ls hl => ?_)
          refine lv_iconst (v := 0) hx hb dd_M_round_162 (by decide) ?_
          refine lv_istore (lv' := [(7, .int (0 : Int32)), (6, .int (1 : Int32)), (0, .ref h0), (1, .long p1), (3, .int (nI c9))]) hx hb dd_M_round_163 hl (by decide) rfl (fun ls hl => ?_)
          exact pow c9 0 (Nat.zero_add c9) f15 Pk _ _ ls (fun i hi => h15 i (by omega)) mwk mfk hw (lv_sub hl [0, 1, 2, 3, 4] rfl)
        | succ n9 ih =>
          intro k hk f15 Pk H locs ls h15 mwk mfk hw hl
          have hkc : k < c9 := by omega
          refine lv_iload hx hb dd_M_round_129 (lv_at hl 0 rfl) ?_
          refine lv_iload_n hx hb dd_M_round_131 rfl (lv_at hl 3 rfl) ?_
          refine lv_icmp_ge (tgt := 159) hx hb dd_M_round_132 (by decide) (fun c125 => absurd c125 (nI_ge hkc (by omega))) (fun c125 => ?_)
          refine lv_aload_n hx hb dd_M_round_135 rfl (lv_at hl 1 rfl) ?_
          refine pm_get (ci := 6) (C := cn_M) (T := cf_M) (N := 23) (v := .ref (ma 15)) hx hb hg gu_M hown hK.2.1 hw mwk.1 rfl 20 (by decide) (hg _ gf_M_56) (fun _ h9 => h9) rfl dd_M_round_136 ?_
          refine lv_iload hx hb dd_M_round_139 (lv_at hl 0 rfl) ?_
          refine lv_lload_n hx hb dd_M_round_141 rfl (lv_at hl 2 rfl) ?_
          refine lv_bipush (v := 6) hx hb dd_M_round_142 (by decide) ?_
          refine lv_iload hx hb dd_M_round_144 (lv_at hl 0 rfl) ?_
          refine lv_imul hx hb dd_M_round_146 ?_
          refine W.eq (g2 := F0 m 147 ls [.int (nI (6 * k)), .long p1, .int (nI k), .ref (ma 15)]) (by rw [show ((6 : Int32) * (nI k)) = (nI (6 * k)) from by rw [show (6 : Int32) = nI 6 from rfl, nI_mul]]) ?_
          refine lv_lshr hx hb dd_M_round_147 rfl ?_
          refine lv_l2i hx hb dd_M_round_148 rfl ?_
          refine lv_bipush (v := 63) hx hb dd_M_round_149 (by decide) ?_
          refine lv_iand hx hb dd_M_round_151 ?_
          refine W.eq (g2 := F0 m 152 ls [.int (nI (bn p1 k)), .int (nI k), .ref (ma 15)]) (by rw [show (((p1 >>> (((nI (6 * k))).toInt64 &&& 63))).toInt32 &&& (63 : Int32)) = (nI (bn p1 k)) from su_tl_bn (by omega)]) ?_
          refine pm_iast (x := (nI (bn p1 k))) hx hb hK.2.1 hw 0 (show Pk (ma 15) = some (.inl (ac 0, 6, .inl ((va_up mv 15 f15) 15))) from mwk.2.1 15 (by decide)) rfl (vp_in_nI (by omega) (by decide)) dd_M_round_152 (fun H locs hw => ?_)
          obtain ⟨P126, eP126⟩ : ∃ pmv : pm_T, pmv = pm_up Pk (ma 15) (md_a ac 15 (upd ((va_up mv 15 f15) 15) ((nI k).toNatClampNeg) (nI (bn p1 k)))) := ⟨_, rfl⟩
          have hw : pm_W z D cl_w (pm_up Pk (ma 15) (md_a ac 15 (upd ((va_up mv 15 f15) 15) ((nI k).toNatClampNeg) (nI (bn p1 k))))) s.heap H _ := hw
          rw [← eP126] at hw
          have mwP126 : md_W P126 ac h0 ma (va_up (va_up mv 15 f15) 15 (upd ((va_up mv 15 f15) 15) ((nI k).toNatClampNeg) (nI (bn p1 k)))) (su_gs (su_rk p1 n (su_tn p3)) (su_an8 (su_in p3 0 6) (su_ro p1 (su_tn p3))) 1 1) (nI n) al (nI t) (nI c9) := by rw [eP126]; exact md_W.put mwk 15 (by decide)
          have mfP126 : md_F P P126 h0 ma := by rw [eP126]; exact md_F.put (by decide) mfk
          obtain ⟨x127, ex127⟩ : ∃ y : Int32, y = (nI k) + 1 := ⟨_, rfl⟩
          refine lv_iinc (v := x127) (lv' := [(6, .int x127), (0, .ref h0), (1, .long p1), (3, .int (nI c9))]) hx hb dd_M_round_153 hl (k := 0) rfl (by rw [ex127]; rfl) (by decide) rfl (fun ls hl => ?_)
          refine lv_goto (tgt := 129) hx hb dd_M_round_156 (by decide) ?_
          have hi7 : x127 = nI (k + 1) := by rw [ex127]; exact nI_1 k
          rw [hi7] at hl
          rw [va_uu, va_us, nI_clamp (show k < 2 ^ 31 by omega)] at mwP126
          refine ih (k + 1) (by omega) (upd f15 k (nI (bn p1 k))) P126 H _ ls (fun i hi => ?_) mwP126 mfP126 hw (lv_sub hl [0, 1, 2, 3] rfl)
          by_cases hik : i = k
          · rw [hik, pk_us]
          · rw [pk_un hik]; exact h15 i (by omega)
      refine lv_aload_n hx hb dd_M_round_121 rfl (lv_at hl 0 rfl) ?_
      refine lv_iload_n hx hb dd_M_round_122 rfl (lv_at hl 2 rfl) ?_
      refine pm_put (ci := 6) (v := .int (nI c9)) (ty := .int) (C := cn_M) (T := cf_M) (N := 23) hx hb hg gu_M ct_M co_M cm_M hown hK.2.1 hw mwP101.1 rfl 19 (by decide) (hg _ gf_M_135) (fun _ h9 => h9) rfl (by decide +kernel) rfl rfl (Nat.le_of_ble_eq_true rfl) dd_M_round_123 (fun H locs hw => ?_)
      obtain ⟨P128, eP128⟩ : ∃ pmv : pm_T, pmv = pm_up P101 h0 (md_o ma (su_gs (su_rk p1 n (su_tn p3)) (su_an8 (su_in p3 0 6) (su_ro p1 (su_tn p3))) (1 : Int32) (1 : Int32)) (nI n) al (nI t) (nI c9)) := ⟨_, rfl⟩
      have hw : pm_W z D cl_w (pm_up P101 h0 (md_o ma (su_gs (su_rk p1 n (su_tn p3)) (su_an8 (su_in p3 0 6) (su_ro p1 (su_tn p3))) (1 : Int32) (1 : Int32)) (nI n) al (nI t) (nI c9))) s.heap H _ := hw
      rw [← eP128] at hw
      have mwP128 : md_W P128 ac h0 ma mv (su_gs (su_rk p1 n (su_tn p3)) (su_an8 (su_in p3 0 6) (su_ro p1 (su_tn p3))) (1 : Int32) (1 : Int32)) (nI n) al (nI t) (nI c9) := by rw [eP128]; exact md_W.obj mwP101
      have mfP128 : md_F P P128 h0 ma := by rw [eP128]; exact md_F.obj mfP101
      refine lv_iconst (v := 0) hx hb dd_M_round_126 (by decide) ?_
      refine lv_istore (lv' := [(6, .int (0 : Int32)), (0, .ref h0), (1, .long p1), (3, .int (nI c9))]) hx hb dd_M_round_127 hl (by decide) rfl (fun ls hl => ?_)
      exact told c9 0 (Nat.zero_add c9) (mv 15) P128 _ _ ls (fun i hi => absurd hi (Nat.not_lt_zero i)) (by rw [va_id]; exact mwP128) mfP128 hw (lv_sub hl [0, 1, 2, 3] rfl)
    · skip
      refine lv_iconst (v := 0) hx hb dd_M_round_119 (by decide) ?_
      refine cx_iret (v := (0 : Int32)) hx hb hr rfl hlocks hw dd_M_round_120 (by decide) (by decide) ?_
      exact ⟨fun h8 => absurd h8 (su_iz c102), fun _ => ⟨rfl, mwP101⟩, mfP101⟩
  have j88 : ∀ (H : Heap) (locs : List Loc) (ls : Array Slot), pm_W z D cl_w P s.heap H locs → lv_has ls 11 [(4, .int (su_rk p1 n (su_tn p3))), (5, .int (su_ro p1 (su_tn p3))), (0, .ref h0), (1, .long p1), (3, .int p3)] → W p l e ({ frames := 4, cells := 0, slots := 0, locals := 120 } : Room) s m ([.ref h0, .long p1, .int p3] : List Value).toArray below meth c H locs 0 0 (MQ below (cx_Q z D (fun v P' => ((su_gs (su_rk p1 n (su_tn p3)) (su_an8 (su_in p3 0 6) (su_ro p1 (su_tn p3))) 1 1) = 0 → ∃ (c9 : Nat) (f15 f16 f17 : Nat → Int32) (v0 : Int32), p3 = nI c9 ∧ c9 ≤ 6 ∧ v = some (.int v0) ∧ su_rb (su_rM mv p1 c9) (su_rS p1 c9) c9 (6 ^ c9) f17 v0 ∧ md_W P' ac h0 ma (va_up (va_up (va_up mv 15 f15) 16 f16) 17 f17) (su_gs (su_rk p1 n (su_tn p3)) (su_an8 (su_in p3 0 6) (su_ro p1 (su_tn p3))) 1 1) (nI n) al (nI t) (nI c9)) ∧ (¬ (su_gs (su_rk p1 n (su_tn p3)) (su_an8 (su_in p3 0 6) (su_ro p1 (su_tn p3))) 1 1) = 0 → v = some (.int 0) ∧ md_W P' ac h0 ma mv (su_gs (su_rk p1 n (su_tn p3)) (su_an8 (su_in p3 0 6) (su_ro p1 (su_tn p3))) 1 1) (nI n) al (nI t) so) ∧ md_F P P' h0 ma)) ([.ref h0, .long p1, .int p3] : List Value).toArray s ({ frames := 4, cells := 0, slots := 0, locals := 120 } : Room).cells ({ frames := 4, cells := 0, slots := 0, locals := 120 } : Room).slots (pm_A z)) (F0 m 88 ls []) := by
    intro H locs ls hw hl
    refine lv_aload_n hx hb dd_M_round_88 rfl (lv_at hl 2 rfl) ?_
    refine lv_iload hx hb dd_M_round_89 (lv_at hl 0 rfl) ?_
    refine lv_iload_n hx hb dd_M_round_91 rfl (lv_at hl 4 rfl) ?_
    refine lv_iconst (v := 0) hx hb dd_M_round_92 (by decide) ?_
    refine lv_bipush (v := 6) hx hb dd_M_round_93 (by decide) ?_
    refine cx_after (cx_rS (n := 3) (As := [.int p3, .int (0 : Int32), .int (6 : Int32)]) (rest := [.int (su_rk p1 n (su_tn p3)), .ref h0]) ⟨hx, hb, hml, hown, hg⟩ (c_M_in l z D ac sa P p3 (0 : Int32) (6 : Int32)) (cx_gs gm_M_72 gt_M_in gn_M gc_M_in) (by decide +kernel) ⟨by decide, by decide⟩ hK hw rfl hl.1 rfl (Nat.le_of_ble_eq_true rfl) dd_M_round_95 ⟨by decide, by decide⟩) hw (fun v9 P9 H locs hp hw => ?_)
    obtain ⟨rfl, e9⟩ := hp
    rw [e9] at hw
    clear e9 P9
    refine W.eq (g2 := F0 m 98 ls [.int (su_in p3 (0 : Int32) (6 : Int32)), .int (su_rk p1 n (su_tn p3)), .ref h0]) rfl ?_
    refine lv_if_eq (tgt := 110) hx hb dd_M_round_98 (by decide) (fun c129 => ?_) (fun c129 => ?_)
    · skip
      refine lv_iconst (v := 0) hx hb dd_M_round_110 (by decide) ?_
      refine W.eq (g2 := F0 m 111 ls [.int (su_an8 (su_in p3 0 6) (su_ro p1 (su_tn p3))), .int (su_rk p1 n (su_tn p3)), .ref h0]) (by rw [show (su_an8 (su_in p3 0 6) (su_ro p1 (su_tn p3))) = (0 : Int32) from by rw [su_an8, if_pos c129]]) ?_
      exact j111 _ _ ls hw (lv_sub hl [2, 3, 4] rfl)
    · skip
      refine lv_iload hx hb dd_M_round_101 (lv_at hl 1 rfl) ?_
      refine lv_if_eq (tgt := 110) hx hb dd_M_round_103 (by decide) (fun c130 => ?_) (fun c130 => ?_)
      · skip
        refine lv_iconst (v := 0) hx hb dd_M_round_110 (by decide) ?_
        refine W.eq (g2 := F0 m 111 ls [.int (su_an8 (su_in p3 0 6) (su_ro p1 (su_tn p3))), .int (su_rk p1 n (su_tn p3)), .ref h0]) (by rw [show (su_an8 (su_in p3 0 6) (su_ro p1 (su_tn p3))) = (0 : Int32) from by rw [su_an8, if_neg c129, if_pos c130]]) ?_
        exact j111 _ _ ls hw (lv_sub hl [2, 3, 4] rfl)
      · skip
        refine lv_iconst (v := 1) hx hb dd_M_round_106 (by decide) ?_
        refine lv_goto (tgt := 111) hx hb dd_M_round_107 (by decide) ?_
        refine W.eq (g2 := F0 m 111 ls [.int (su_an8 (su_in p3 0 6) (su_ro p1 (su_tn p3))), .int (su_rk p1 n (su_tn p3)), .ref h0]) (by rw [show (su_an8 (su_in p3 0 6) (su_ro p1 (su_tn p3))) = (1 : Int32) from by rw [su_an8, if_neg c129, if_neg c130]]) ?_
        exact j111 _ _ ls hw (lv_sub hl [2, 3, 4] rfl)
  have first : ∀ (n9 i : Nat), i + n9 = su_tn p3 → ∀ (k4 o5 : Int32) (H : Heap) (locs : List Loc) (ls : Array Slot), k4 = su_rk p1 n i → o5 = su_ro p1 i → pm_W z D cl_w P s.heap H locs → lv_has ls 11 [(6, .int (nI i)), (4, .int k4), (5, .int o5), (0, .ref h0), (1, .long p1), (3, .int p3)] → W p l e ({ frames := 4, cells := 0, slots := 0, locals := 120 } : Room) s m ([.ref h0, .long p1, .int p3] : List Value).toArray below meth c H locs 0 0 (MQ below (cx_Q z D (fun v P' => ((su_gs (su_rk p1 n (su_tn p3)) (su_an8 (su_in p3 0 6) (su_ro p1 (su_tn p3))) 1 1) = 0 → ∃ (c9 : Nat) (f15 f16 f17 : Nat → Int32) (v0 : Int32), p3 = nI c9 ∧ c9 ≤ 6 ∧ v = some (.int v0) ∧ su_rb (su_rM mv p1 c9) (su_rS p1 c9) c9 (6 ^ c9) f17 v0 ∧ md_W P' ac h0 ma (va_up (va_up (va_up mv 15 f15) 16 f16) 17 f17) (su_gs (su_rk p1 n (su_tn p3)) (su_an8 (su_in p3 0 6) (su_ro p1 (su_tn p3))) 1 1) (nI n) al (nI t) (nI c9)) ∧ (¬ (su_gs (su_rk p1 n (su_tn p3)) (su_an8 (su_in p3 0 6) (su_ro p1 (su_tn p3))) 1 1) = 0 → v = some (.int 0) ∧ md_W P' ac h0 ma mv (su_gs (su_rk p1 n (su_tn p3)) (su_an8 (su_in p3 0 6) (su_ro p1 (su_tn p3))) 1 1) (nI n) al (nI t) so) ∧ md_F P P' h0 ma)) ([.ref h0, .long p1, .int p3] : List Value).toArray s ({ frames := 4, cells := 0, slots := 0, locals := 120 } : Room).cells ({ frames := 4, cells := 0, slots := 0, locals := 120 } : Room).slots (pm_A z)) (F0 m 9 ls []) := by
    intro n9
    induction n9 with
    | zero =>
      intro i hi k4 o5 H locs ls e4 e5 hw hl
      have hi : i = su_tn p3 := by omega
      rw [hi] at e4 e5
      rw [e4, e5] at hl
      have ht6 := su_tn_le p3
      have hx9 := (su_tn_x (su_tn_6 p3) (i := i) (by omega)).mpr (by rw [hi]; exact Nat.le_refl _)
      refine lv_iload hx hb dd_M_round_9 (lv_at hl 0 rfl) ?_
      refine lv_bipush (v := 6) hx hb dd_M_round_11 (by decide) ?_
      refine lv_icmp_ge (tgt := 88) hx hb dd_M_round_13 (by decide) (fun c131 => ?_) (fun c131 => ?_)
      · skip
        exact j88 _ _ ls hw (lv_sub hl [1, 2, 3, 4, 5] rfl)
      · skip
        refine lv_iload hx hb dd_M_round_16 (lv_at hl 0 rfl) ?_
        refine lv_iload_n hx hb dd_M_round_18 rfl (lv_at hl 5 rfl) ?_
        refine lv_icmp_ge (tgt := 88) hx hb dd_M_round_19 (by decide) (fun c132 => ?_) (fun c132 => absurd (su_p7 c131 hx9) c132)
        exact j88 _ _ ls hw (lv_sub hl [1, 2, 3, 4, 5] rfl)
    | succ n9 ih =>
      intro i hi k4 o5 H locs ls e4 e5 hw hl
      have ht6 := su_tn_le p3
      have hlt : i < su_tn p3 := by omega
      have hx9 : ¬ (if 6 < p3 then (6 : Int32) else p3) ≤ nI i := fun h => by have h2 : su_tn p3 ≤ i := (su_tn_x (su_tn_6 p3) (i := i) (by omega)).mp h; omega
      have hb64 := bn_lt p1 i
      have second : ∀ (n7 k : Nat), k + n7 = i → ∀ (k4 o5 : Int32) (H : Heap) (locs : List Loc) (ls : Array Slot), k4 = su_rk p1 n (i + 1) → o5 = su_ro1 p1 i (su_ro p1 i) k → pm_W z D cl_w P s.heap H locs → lv_has ls 11 [(8, .int (nI k)), (5, .int o5), (7, .int (nI (bn p1 i))), (6, .int (nI i)), (4, .int k4), (0, .ref h0), (1, .long p1), (3, .int p3)] → W p l e ({ frames := 4, cells := 0, slots := 0, locals := 120 } : Room) s m ([.ref h0, .long p1, .int p3] : List Value).toArray below meth c H locs 0 0 (MQ below (cx_Q z D (fun v P' => ((su_gs (su_rk p1 n (su_tn p3)) (su_an8 (su_in p3 0 6) (su_ro p1 (su_tn p3))) 1 1) = 0 → ∃ (c9 : Nat) (f15 f16 f17 : Nat → Int32) (v0 : Int32), p3 = nI c9 ∧ c9 ≤ 6 ∧ v = some (.int v0) ∧ su_rb (su_rM mv p1 c9) (su_rS p1 c9) c9 (6 ^ c9) f17 v0 ∧ md_W P' ac h0 ma (va_up (va_up (va_up mv 15 f15) 16 f16) 17 f17) (su_gs (su_rk p1 n (su_tn p3)) (su_an8 (su_in p3 0 6) (su_ro p1 (su_tn p3))) 1 1) (nI n) al (nI t) (nI c9)) ∧ (¬ (su_gs (su_rk p1 n (su_tn p3)) (su_an8 (su_in p3 0 6) (su_ro p1 (su_tn p3))) 1 1) = 0 → v = some (.int 0) ∧ md_W P' ac h0 ma mv (su_gs (su_rk p1 n (su_tn p3)) (su_an8 (su_in p3 0 6) (su_ro p1 (su_tn p3))) 1 1) (nI n) al (nI t) so) ∧ md_F P P' h0 ma)) ([.ref h0, .long p1, .int p3] : List Value).toArray s ({ frames := 4, cells := 0, slots := 0, locals := 120 } : Room).cells ({ frames := 4, cells := 0, slots := 0, locals := 120 } : Room).slots (pm_A z)) (F0 m 50 ls []) := by
        intro n7
        induction n7 with
        | zero =>
          intro k hk k4 o5 H locs ls e4 e5 hw hl
          have hk : k = i := by omega
          refine lv_iload hx hb dd_M_round_50 (lv_at hl 0 rfl) ?_
          refine lv_iload hx hb dd_M_round_52 (lv_at hl 3 rfl) ?_
          refine lv_icmp_ge (tgt := 82) hx hb dd_M_round_54 (by decide) (fun c133 => ?_) (fun c133 => absurd (by rw [hk]; exact Int32.le_refl _) c133)
          obtain ⟨x134, ex134⟩ : ∃ y : Int32, y = (nI i) + 1 := ⟨_, rfl⟩
          refine lv_iinc (v := x134) (lv' := [(6, .int x134), (8, .int (nI k)), (5, .int o5), (7, .int (nI (bn p1 i))), (4, .int k4), (0, .ref h0), (1, .long p1), (3, .int p3)]) hx hb dd_M_round_82 hl (k := 3) rfl (by rw [ex134]; rfl) (by decide) rfl (fun ls hl => ?_)
          refine lv_goto (tgt := 9) hx hb dd_M_round_85 (by decide) ?_
          have hi7 : x134 = nI (i + 1) := by rw [ex134]; exact nI_1 i
          rw [hi7] at hl
          exact ih (i + 1) (by omega) k4 o5 H _ ls e4 (by rw [e5, hk]; rfl) hw (lv_sub hl [0, 4, 2, 5, 6, 7] rfl)
        | succ n7 kh =>
          intro k hk k4 o5 H locs ls e4 e5 hw hl
          have hki : k < i := by omega
          have hb63 := bn_lt p1 k
          refine lv_iload hx hb dd_M_round_50 (lv_at hl 0 rfl) ?_
          refine lv_iload hx hb dd_M_round_52 (lv_at hl 3 rfl) ?_
          refine lv_icmp_ge (tgt := 82) hx hb dd_M_round_54 (by decide) (fun c135 => absurd c135 (nI_ge hki (by omega))) (fun c135 => ?_)
          refine lv_lload_n hx hb dd_M_round_57 rfl (lv_at hl 6 rfl) ?_
          refine lv_bipush (v := 6) hx hb dd_M_round_58 (by decide) ?_
          refine lv_iload hx hb dd_M_round_60 (lv_at hl 0 rfl) ?_
          refine lv_imul hx hb dd_M_round_62 ?_
          refine W.eq (g2 := F0 m 63 ls [.int (nI (6 * k)), .long p1]) (by rw [show ((6 : Int32) * (nI k)) = (nI (6 * k)) from by rw [show (6 : Int32) = nI 6 from rfl, nI_mul]]) ?_
          refine lv_lshr hx hb dd_M_round_63 rfl ?_
          refine lv_l2i hx hb dd_M_round_64 rfl ?_
          refine lv_bipush (v := 63) hx hb dd_M_round_65 (by decide) ?_
          refine lv_iand hx hb dd_M_round_67 ?_
          refine W.eq (g2 := F0 m 68 ls [.int (nI (bn p1 k))]) (by rw [show (((p1 >>> (((nI (6 * k))).toInt64 &&& 63))).toInt32 &&& (63 : Int32)) = (nI (bn p1 k)) from su_tl_bn (by omega)]) ?_
          refine lv_iload hx hb dd_M_round_68 (lv_at hl 2 rfl) ?_
          refine lv_icmp_ne (tgt := 76) hx hb dd_M_round_70 (by decide) (fun c136 => ?_) (fun c136 => ?_)
          · skip
            obtain ⟨x137, ex137⟩ : ∃ y : Int32, y = (nI k) + 1 := ⟨_, rfl⟩
            refine lv_iinc (v := x137) (lv' := [(8, .int x137), (5, .int o5), (7, .int (nI (bn p1 i))), (6, .int (nI i)), (4, .int k4), (0, .ref h0), (1, .long p1), (3, .int p3)]) hx hb dd_M_round_76 hl (k := 0) rfl (by rw [ex137]; rfl) (by decide) rfl (fun ls hl => ?_)
            refine lv_goto (tgt := 50) hx hb dd_M_round_79 (by decide) ?_
            have hi7 : x137 = nI (k + 1) := by rw [ex137]; exact nI_1 k
            rw [hi7] at hl
            exact kh (k + 1) (by omega) k4 o5 H _ ls e4 (by simp only [su_ro1, if_neg c136]; exact e5) hw (lv_sub hl [0, 1, 2, 3, 4, 5, 6, 7] rfl)
          · skip
            refine lv_iconst (v := 0) hx hb dd_M_round_73 (by decide) ?_
            refine lv_istore (lv' := [(5, .int (0 : Int32)), (8, .int (nI k)), (7, .int (nI (bn p1 i))), (6, .int (nI i)), (4, .int k4), (0, .ref h0), (1, .long p1), (3, .int p3)]) hx hb dd_M_round_74 hl (by decide) rfl (fun ls hl => ?_)
            obtain ⟨x138, ex138⟩ : ∃ y : Int32, y = (nI k) + 1 := ⟨_, rfl⟩
            refine lv_iinc (v := x138) (lv' := [(8, .int x138), (5, .int (0 : Int32)), (7, .int (nI (bn p1 i))), (6, .int (nI i)), (4, .int k4), (0, .ref h0), (1, .long p1), (3, .int p3)]) hx hb dd_M_round_76 hl (k := 1) rfl (by rw [ex138]; rfl) (by decide) rfl (fun ls hl => ?_)
            refine lv_goto (tgt := 50) hx hb dd_M_round_79 (by decide) ?_
            have hi7 : x138 = nI (k + 1) := by rw [ex138]; exact nI_1 k
            rw [hi7] at hl
            exact kh (k + 1) (by omega) k4 (0 : Int32) H _ ls e4 (by simp only [su_ro1, if_pos c136]) hw (lv_sub hl [0, 1, 2, 3, 4, 5, 6, 7] rfl)
      refine lv_iload hx hb dd_M_round_9 (lv_at hl 0 rfl) ?_
      refine lv_bipush (v := 6) hx hb dd_M_round_11 (by decide) ?_
      refine lv_icmp_ge (tgt := 88) hx hb dd_M_round_13 (by decide) (fun c139 => absurd c139 (su_p8 hx9 (by omega))) (fun c139 => ?_)
      refine lv_iload hx hb dd_M_round_16 (lv_at hl 0 rfl) ?_
      refine lv_iload_n hx hb dd_M_round_18 rfl (lv_at hl 5 rfl) ?_
      refine lv_icmp_ge (tgt := 88) hx hb dd_M_round_19 (by decide) (fun c140 => absurd c140 (su_p9 hx9 (by omega))) (fun c140 => ?_)
      refine lv_lload_n hx hb dd_M_round_22 rfl (lv_at hl 4 rfl) ?_
      refine lv_bipush (v := 6) hx hb dd_M_round_23 (by decide) ?_
      refine lv_iload hx hb dd_M_round_25 (lv_at hl 0 rfl) ?_
      refine lv_imul hx hb dd_M_round_27 ?_
      refine W.eq (g2 := F0 m 28 ls [.int (nI (6 * i)), .long p1]) (by rw [show ((6 : Int32) * (nI i)) = (nI (6 * i)) from by rw [show (6 : Int32) = nI 6 from rfl, nI_mul]]) ?_
      refine lv_lshr hx hb dd_M_round_28 rfl ?_
      refine lv_l2i hx hb dd_M_round_29 rfl ?_
      refine lv_bipush (v := 63) hx hb dd_M_round_30 (by decide) ?_
      refine lv_iand hx hb dd_M_round_32 ?_
      refine W.eq (g2 := F0 m 33 ls [.int (nI (bn p1 i))]) (by rw [show (((p1 >>> (((nI (6 * i))).toInt64 &&& 63))).toInt32 &&& (63 : Int32)) = (nI (bn p1 i)) from su_tl_bn (by omega)]) ?_
      refine lv_istore (lv' := [(7, .int (nI (bn p1 i))), (6, .int (nI i)), (4, .int k4), (5, .int o5), (0, .ref h0), (1, .long p1), (3, .int p3)]) hx hb dd_M_round_33 hl (by decide) rfl (fun ls hl => ?_)
      refine lv_aload_n hx hb dd_M_round_35 rfl (lv_at hl 4 rfl) ?_
      refine lv_iload hx hb dd_M_round_36 (lv_at hl 0 rfl) ?_
      refine cx_after (cx_rV (n := 1) (As := [.int (nI (bn p1 i))]) (rest := []) ⟨hx, hb, hml, hown, hg⟩ (c_M_isHydrant l z D ac sa P h0 ma mv th (nI n) al (nI t) so (nI (bn p1 i)) mw) (cx_gv gm_M_95 gi_M_isHydrant gs_M_isHydrant gn_M gc_M_isHydrant) (by decide +kernel) ⟨by decide, by decide⟩ hK hw mw.1 rfl rfl hl.1 rfl (Nat.le_of_ble_eq_true rfl) dd_M_round_38 ⟨by decide, by decide⟩) hw (fun v9 P9 H locs hp hw => ?_)
      obtain ⟨rfl, e9⟩ := hp
      rw [e9] at hw
      clear e9 P9
      refine W.eq (g2 := F0 m 41 ls [.int (su_in (nI (bn p1 i)) 0 ((nI n) - 1))]) rfl ?_
      refine lv_if_ne (tgt := 47) hx hb dd_M_round_41 (by decide) (fun c141 => ?_) (fun c141 => ?_)
      · skip
        refine lv_iconst (v := 0) hx hb dd_M_round_47 (by decide) ?_
        refine lv_istore (lv' := [(8, .int (0 : Int32)), (7, .int (nI (bn p1 i))), (6, .int (nI i)), (4, .int k4), (5, .int o5), (0, .ref h0), (1, .long p1), (3, .int p3)]) hx hb dd_M_round_48 hl (by decide) rfl (fun ls hl => ?_)
        exact second i 0 (Nat.zero_add i) k4 o5 _ _ ls (by simp only [su_rk, if_neg c141]; exact e4) (by rw [e5]; rfl) hw (lv_sub hl [0, 4, 1, 2, 3, 5, 6, 7] rfl)
      · skip
        refine lv_iconst (v := 0) hx hb dd_M_round_44 (by decide) ?_
        refine lv_istore (lv' := [(4, .int (0 : Int32)), (7, .int (nI (bn p1 i))), (6, .int (nI i)), (5, .int o5), (0, .ref h0), (1, .long p1), (3, .int p3)]) hx hb dd_M_round_45 hl (by decide) rfl (fun ls hl => ?_)
        refine lv_iconst (v := 0) hx hb dd_M_round_47 (by decide) ?_
        refine lv_istore (lv' := [(8, .int (0 : Int32)), (4, .int (0 : Int32)), (7, .int (nI (bn p1 i))), (6, .int (nI i)), (5, .int o5), (0, .ref h0), (1, .long p1), (3, .int p3)]) hx hb dd_M_round_48 hl (by decide) rfl (fun ls hl => ?_)
        exact second i 0 (Nat.zero_add i) (0 : Int32) o5 _ _ ls (by simp only [su_rk, if_pos c141]) (by rw [e5]; rfl) hw (lv_sub hl [0, 4, 2, 3, 1, 5, 6, 7] rfl)
  refine lv_iconst (v := 1) hx hb dd_M_round_0 (by decide) ?_
  refine lv_istore (lv' := [(4, .int (1 : Int32)), (0, .ref h0), (1, .long p1), (3, .int p3)]) hx hb dd_M_round_1 hl (by decide) rfl (fun ls hl => ?_)
  refine lv_iconst (v := 1) hx hb dd_M_round_3 (by decide) ?_
  refine lv_istore (lv' := [(5, .int (1 : Int32)), (4, .int (1 : Int32)), (0, .ref h0), (1, .long p1), (3, .int p3)]) hx hb dd_M_round_4 hl (by decide) rfl (fun ls hl => ?_)
  refine lv_iconst (v := 0) hx hb dd_M_round_6 (by decide) ?_
  refine lv_istore (lv' := [(6, .int (0 : Int32)), (5, .int (1 : Int32)), (4, .int (1 : Int32)), (0, .ref h0), (1, .long p1), (3, .int p3)]) hx hb dd_M_round_7 hl (by decide) rfl (fun ls hl => ?_)
  exact first (su_tn p3) 0 (Nat.zero_add _) 1 1 _ _ ls rfl rfl hw (lv_sub hl [0, 2, 1, 3, 4, 5] rfl)
