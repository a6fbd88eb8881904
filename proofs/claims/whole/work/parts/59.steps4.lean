theorem vq_s {α : Type} {f : Nat → α} {k : Nat} {x : α} : va_up f k x k = x := by simp only [va_up, if_true]
theorem vq_n {α : Type} {f : Nat → α} {k i : Nat} {x : α} (h : i ≠ k) : va_up f k x i = f i := by simp only [va_up, if_neg h]
def iv_nw (a b c d e : Int32) (k : Nat) : Int32 := if k = 0 then a else if k = 1 then b else if k = 2 then c else if k = 3 then d else if k = 4 then e else 0
def iv_nt (a b c d e f : Int32) (k : Nat) : Int32 := if k = 0 then a else if k = 1 then b else if k = 2 then c else if k = 3 then d else if k = 4 then e else f
theorem map_cg {f g : Nat → Nat} {o : Option Nat} (h : ∀ i, o = some i → f i = g i) : o.map f = o.map g := by
  rcases o with _ | i
  · rfl
  · show some (f i) = some (g i)
    rw [h i rfl]
section NEW
variable {P P1 : pm_T} {ac : Nat → ClassId} {h0 : Nat} {ad : Nat → Nat} {n t : Nat} {al : Int32} {fH fT : Nat → Option Nat} {hv tv ov : Nat → Nat → Int32} {aw : Nat → Nat} {ct : Nat → Option Nat} {fw : Nat → Nat → Option Nat} {lm : Nat → Int32} {cn lt ks : Int32} {kf : Nat → Int32} {fC : Nat → Option Nat} {fY fB : Nat → Int32}
/-- a new hydrant -/
theorem iv_C.newh {q qa : Nat} {p1 p2 p3 p4 : Int32} (h : iv_C P ac h0 ad n t al fH fT hv tv ov aw ct fw lm cn lt ks kf fC fY fB) (nq : P q = none) (nqa : P qa = none) (f1 : P1 q = some (.inr (1, [.int (nI n), .int p1, .int p2, .int p3, .int p4, .ref qa, .int 0, .int 0, .int 0, .int 0, .null]))) (f2 : P1 qa = some (iv_r ac 5 3 (fun _ => none))) (f3 : P1 (ad 1) = some (iv_r ac 3 40 (va_up fH n (some q)))) (f4 : P1 h0 = some (.inr (0, [.ref (ad 1), .ref (ad 2), .ref (ad 3), .ref (ad 4), .ref (ad 5), .int (nI (n + 1)), .int (nI t), .int al]))) (fr : ∀ a : Nat, P a ≠ none → a ≠ h0 → a ≠ ad 1 → P1 a = P a) : iv_C P1 ac h0 ad (n + 1) t al (va_up fH n (some q)) fT (fun k => upd (hv k) q (iv_nw (nI n) p1 p2 p3 p4 k)) tv ov (va_up aw q qa) (va_up ct q none) (va_up fw q (fun _ => none)) lm cn lt ks kf fC fY fB := by
  obtain ⟨g0, g1, g2, g3, g4, g6, g5, g7, g8, g9, gn, gy, gt⟩ := h
  have kk : ∀ a e, P a = some e → a ≠ h0 → a ≠ ad 1 → P1 a = some e := fun a e h1 h2 h3 => by rw [fr a (by rw [h1]; exact fun h => nomatch h) h2 h3]; exact h1
  have k2 : ∀ a e, P a = some e → e ≠ .inr (0, [.ref (ad 1), .ref (ad 2), .ref (ad 3), .ref (ad 4), .ref (ad 5), .int (nI n), .int (nI t), .int al]) → e ≠ iv_r ac 3 40 fH → P1 a = some e := fun a e h1 h2 h3 => kk a e h1 (pm_ne h1 g0 h2) (pm_ne h1 g1 h3)
  refine ⟨f4, f3, k2 _ _ g2 (by simp) (by simp), k2 _ _ g3 (by simp) (by simp), k2 _ _ g4 (by simp) (by simp), k2 _ _ g6 (by simp) (by simp), k2 _ _ g5 (by simp) (by simp), k2 _ _ g7 (by simp) (by simp), k2 _ _ g8 (by simp) (by simp), k2 _ _ g9 (by simp) (by simp), gn, fun k r hr => ?_, fun k x hx => k2 _ _ (gt k x hx) (by simp) (by simp)⟩
  by_cases hk : k = n
  · rw [hk, vq_s] at hr
    cases hr
    refine ⟨?_, ?_, fun j o ho => ?_, fun x hx => ?_⟩
    · simp only [upd_s, vq_s]; exact f1
    · rw [vq_s, vq_s]; exact f2
    · rw [vq_s] at ho; cases ho
    · rw [vq_s] at hx; cases hx
  · rw [vq_n hk] at hr
    obtain ⟨y1, y2, y3, y4⟩ := gy k r hr
    have hrq : r ≠ q := fun e => by rw [e, nq] at y1; cases y1
    refine ⟨?_, ?_, fun j o ho => ?_, fun x hx => ?_⟩
    · simp only [upd_n hrq, vq_n hrq]; exact k2 _ _ y1 (by simp) (by simp)
    · rw [vq_n hrq, vq_n hrq]; exact k2 _ _ y2 (by simp) (by simp)
    · rw [vq_n hrq] at ho; exact k2 _ _ (y3 j o ho) (by simp) (by simp)
    · rw [vq_n hrq] at hx; exact k2 _ _ (y4 x hx) (by simp) (by simp)
/-- a new test -/
theorem iv_C.newt {q x0 : Nat} {p1 p2 p3 p4 p5 : Int32} {j : Nat} (h : iv_C P ac h0 ad n t al fH fT hv tv ov aw ct fw lm cn lt ks kf fC fY fB) (hj : fH j = some q) (nx : P x0 = none) (f1 : P1 x0 = some (.inr (2, [.int (nI t), .int p1, .int p2, .int p3, .int p4, .int p5]))) (f2 : P1 (ad 2) = some (iv_r ac 4 100 (va_up fT t (some x0)))) (f3 : P1 h0 = some (.inr (0, [.ref (ad 1), .ref (ad 2), .ref (ad 3), .ref (ad 4), .ref (ad 5), .int (nI n), .int (nI (t + 1)), .int al])))
    (f4 : P1 q = some (.inr (1, [.int (hv 0 q), .int (hv 1 q), .int (hv 2 q), .int (hv 3 q), .int (hv 4 q), .ref (aw q), .int (hv 6 q), .int (hv 7 q), .int (hv 8 q), .int (hv 9 q + 1), va_rf (su_ct (ct q) (tv 2) x0 p2)]))) (fr : ∀ a : Nat, P a ≠ none → a ≠ h0 → a ≠ ad 2 → a ≠ q → P1 a = P a) : iv_C P1 ac h0 ad n (t + 1) al fH (va_up fT t (some x0)) (va_up hv 9 (upd (hv 9) q (hv 9 q + 1))) (fun k => upd (tv k) x0 (iv_nt (nI t) p1 p2 p3 p4 p5 k)) ov aw (va_up ct q (su_ct (ct q) (tv 2) x0 p2)) fw lm cn lt ks kf fC fY fB := by
  obtain ⟨g0, g1, g2, g3, g4, g6, g5, g7, g8, g9, gn, gy, gt⟩ := h
  have gq := (gy j q hj).1
  have k2 : ∀ a e, P a = some e → e ≠ .inr (0, [.ref (ad 1), .ref (ad 2), .ref (ad 3), .ref (ad 4), .ref (ad 5), .int (nI n), .int (nI t), .int al]) → e ≠ iv_r ac 4 100 fT → a ≠ q → P1 a = some e := fun a e h1 h2 h3 h4 => by rw [fr a (by rw [h1]; exact fun h => nomatch h) (pm_ne h1 g0 h2) (pm_ne h1 g2 h3) h4]; exact h1
  have nqe : ∀ a e, P a = some e → e ≠ iv_h hv aw ct q → a ≠ q := fun a e h1 h2 => pm_ne h1 gq h2
  have kt : ∀ x, P x = some (iv_t tv x) → P1 x = some (iv_t (fun k => upd (tv k) x0 (iv_nt (nI t) p1 p2 p3 p4 p5 k)) x) := fun x hx => by
    have hxx : x ≠ x0 := fun e => by rw [e, nx] at hx; cases hx
    simp only [iv_t, upd_n hxx]
    exact k2 _ _ hx (by simp) (by simp) (nqe _ _ hx (by simp))
  have kn : P1 x0 = some (iv_t (fun k => upd (tv k) x0 (iv_nt (nI t) p1 p2 p3 p4 p5 k)) x0) := by
    simp only [iv_t, upd_s]; exact f1
  have k3 : ∀ a e, P a = some e → e ≠ .inr (0, [.ref (ad 1), .ref (ad 2), .ref (ad 3), .ref (ad 4), .ref (ad 5), .int (nI n), .int (nI t), .int al]) → e ≠ iv_r ac 4 100 fT → e ≠ iv_h hv aw ct q → P1 a = some e := fun a e h1 h2 h3 h4 => k2 a e h1 h2 h3 (nqe a e h1 h4)
  refine ⟨f3, k3 _ _ g1 (by simp) (by simp) (by simp), f2, k3 _ _ g3 (by simp) (by simp) (by simp), k3 _ _ g4 (by simp) (by simp) (by simp), k3 _ _ g6 (by simp) (by simp) (by simp), k3 _ _ g5 (by simp) (by simp) (by simp), k3 _ _ g7 (by simp) (by simp) (by simp), k3 _ _ g8 (by simp) (by simp) (by simp), k3 _ _ g9 (by simp) (by simp) (by simp), gn, fun k r hr => ?_, fun k x hx => ?_⟩
  · obtain ⟨y1, y2, y3, y4⟩ := gy k r hr
    refine ⟨?_, k3 _ _ y2 (by simp) (by simp) (by simp), fun i o ho => k3 _ _ (y3 i o ho) (by simp) (by simp) (by simp), fun x hx => ?_⟩
    · by_cases hrq : r = q
      · subst hrq
        rw [vq_s (f := ct)]
        show P1 r = some (.inr (1, [.int (hv 0 r), .int (hv 1 r), .int (hv 2 r), .int (hv 3 r), .int (hv 4 r), .ref (aw r), .int (hv 6 r), .int (hv 7 r), .int (hv 8 r), .int (upd (hv 9) r (hv 9 r + 1) r), va_rf (su_ct (ct r) (tv 2) x0 p2)]))
        rw [upd_s]
        exact f4
      · rw [vq_n hrq]
        show P1 r = some (.inr (1, [.int (hv 0 r), .int (hv 1 r), .int (hv 2 r), .int (hv 3 r), .int (hv 4 r), .ref (aw r), .int (hv 6 r), .int (hv 7 r), .int (hv 8 r), .int (upd (hv 9) q (hv 9 q + 1) r), va_rf (ct r)]))
        rw [upd_n hrq]
        exact k2 _ _ y1 (by simp) (by simp) hrq
    · by_cases hrq : r = q
      · subst hrq
        rw [vq_s] at hx
        rcases hc : ct r with _ | y
        · rw [hc] at hx; cases hx; exact kn
        · rw [hc] at hx
          simp only [su_ct] at hx
          by_cases h1 : p2 < tv 2 y
          · rw [if_pos h1] at hx; cases hx; exact kt _ (y4 _ hc)
          · rw [if_neg h1] at hx; cases hx; exact kn
      · rw [vq_n hrq] at hx; exact kt _ (y4 x hx)
  · by_cases hk : k = t
    · rw [hk, vq_s] at hx; cases hx; exact kn
    · rw [vq_n hk] at hx; exact kt _ (gt k x hx)
/-- new works -/
theorem iv_C.newo {q o : Nat} {p2 p3 x6 : Int32} {j w : Nat} (h : iv_C P ac h0 ad n t al fH fT hv tv ov aw ct fw lm cn lt ks kf fC fY fB) (hj : fH j = some q) (no : P o = none) (hinj : ∀ k r, fH k = some r → r ≠ q → aw r ≠ aw q) : iv_C (pm_up (pm_up (pm_up P o (.inr (3, [.int p2, .int p3]))) (aw q) (iv_r ac 5 3 (va_up (fw q) w (some o)))) q (.inr (1, [.int (hv 0 q), .int (hv 1 q), .int (hv 2 q), .int (hv 3 q), .int (hv 4 q), .ref (aw q), .int x6, .int (hv 7 q), .int (hv 8 q), .int (hv 9 q), va_rf (ct q)]))) ac h0 ad n t al fH fT (va_up hv 6 (upd (hv 6) q x6)) tv (fun k => upd (ov k) o (if k = 0 then p2 else p3)) aw ct (va_up fw q (va_up (fw q) w (some o))) lm cn lt ks kf fC fY fB := by
  obtain ⟨g0, g1, g2, g3, g4, g6, g5, g7, g8, g9, gn, gy, gt⟩ := h
  obtain ⟨gq, ga, go, gx⟩ := gy j q hj
  obtain ⟨P1, eP⟩ : ∃ P1 : pm_T, P1 = pm_up (pm_up (pm_up P o (.inr (3, [.int p2, .int p3]))) (aw q) (iv_r ac 5 3 (va_up (fw q) w (some o)))) q (.inr (1, [.int (hv 0 q), .int (hv 1 q), .int (hv 2 q), .int (hv 3 q), .int (hv 4 q), .ref (aw q), .int x6, .int (hv 7 q), .int (hv 8 q), .int (hv 9 q), va_rf (ct q)])) := ⟨_, rfl⟩
  rw [← eP]
  have naq : aw q ≠ q := pm_ne ga gq (by simp)
  have noq : o ≠ q := fun e => by rw [e, gq] at no; cases no
  have noa : o ≠ aw q := fun e => by rw [e, ga] at no; cases no
  have f1 : P1 o = some (.inr (3, [.int p2, .int p3])) := by rw [eP, pm_n noq, pm_n noa]; exact pm_s
  have f2 : P1 (aw q) = some (iv_r ac 5 3 (va_up (fw q) w (some o))) := by rw [eP, pm_n naq]; exact pm_s
  have f3 : P1 q = some (.inr (1, [.int (hv 0 q), .int (hv 1 q), .int (hv 2 q), .int (hv 3 q), .int (hv 4 q), .ref (aw q), .int x6, .int (hv 7 q), .int (hv 8 q), .int (hv 9 q), va_rf (ct q)])) := by rw [eP]; exact pm_s
  have k2 : ∀ a e, P a = some e → a ≠ aw q → a ≠ q → P1 a = some e := fun a e h1 h2 h3 => by
    rw [eP, pm_n h3, pm_n h2, pm_n (fun e9 => by rw [e9, no] at h1; cases h1)]; exact h1
  have k3 : ∀ a e, P a = some e → e ≠ iv_r ac 5 3 (fw q) → e ≠ iv_h hv aw ct q → P1 a = some e := fun a e h1 h2 h3 => k2 a e h1 (pm_ne h1 ga h2) (pm_ne h1 gq h3)
  have ko : ∀ y, P y = some (.inr (3, [.int (ov 0 y), .int (ov 1 y)])) → P1 y = some (.inr (3, [.int (upd (ov 0) o (if 0 = 0 then p2 else p3) y), .int (upd (ov 1) o (if 1 = 0 then p2 else p3) y)])) := fun y hy => by
    have hyo : y ≠ o := fun e => by rw [e, no] at hy; cases hy
    rw [upd_n hyo, upd_n hyo]
    exact k3 _ _ hy (by simp) (by simp)
  have ko1 : P1 o = some (.inr (3, [.int (upd (ov 0) o (if 0 = 0 then p2 else p3) o), .int (upd (ov 1) o (if 1 = 0 then p2 else p3) o)])) := by
    rw [upd_s, upd_s]; exact f1
  refine ⟨k3 _ _ g0 (by simp) (by simp), k3 _ _ g1 (by simp) (by simp), k3 _ _ g2 (by simp) (by simp), k3 _ _ g3 (by simp) (by simp), k3 _ _ g4 (by simp) (by simp), k3 _ _ g6 (by simp) (by simp), k3 _ _ g5 (by simp) (by simp), k3 _ _ g7 (by simp) (by simp), k3 _ _ g8 (by simp) (by simp), k3 _ _ g9 (by simp) (by simp), gn, fun k r hr => ?_, fun k x hx => k3 _ _ (gt k x hx) (by simp) (by simp)⟩
  obtain ⟨y1, y2, y3, y4⟩ := gy k r hr
  refine ⟨?_, ?_, fun i y hy => ?_, fun x hx => k3 _ _ (y4 x hx) (by simp) (by simp)⟩
  · by_cases hrq : r = q
    · subst hrq
      show P1 r = some (.inr (1, [.int (hv 0 r), .int (hv 1 r), .int (hv 2 r), .int (hv 3 r), .int (hv 4 r), .ref (aw r), .int (upd (hv 6) r x6 r), .int (hv 7 r), .int (hv 8 r), .int (hv 9 r), va_rf (ct r)]))
      rw [upd_s]; exact f3
    · show P1 r = some (.inr (1, [.int (hv 0 r), .int (hv 1 r), .int (hv 2 r), .int (hv 3 r), .int (hv 4 r), .ref (aw r), .int (upd (hv 6) q x6 r), .int (hv 7 r), .int (hv 8 r), .int (hv 9 r), va_rf (ct r)]))
      rw [upd_n hrq]
      exact k2 _ _ y1 (pm_ne y1 ga (by simp)) hrq
  · by_cases hrq : r = q
    · subst hrq; rw [vq_s]; exact f2
    · rw [vq_n hrq]; exact k2 _ _ y2 (hinj k r hr hrq) (pm_ne y2 gq (by simp))
  · by_cases hrq : r = q
    · subst hrq
      rw [vq_s] at hy
      by_cases hi : i = w
      · rw [hi, vq_s] at hy; cases hy; exact ko1
      · rw [vq_n hi] at hy; exact ko _ (y3 i y hy)
    · rw [vq_n hrq] at hy; exact ko _ (y3 i y hy)
end NEW

theorem su_bit_0 : ∀ m, m < 12 → su_bit 0 (nI m) = 0 := by decide +kernel

set_option maxHeartbeats 4000000 in
set_option maxRecDepth 100000 in
theorem st_hydrant (l : Launch) (hT : l.stackTraces = false) (z : Nat) (D : va_G) (ac : Nat → ClassId) (sa : Nat → Nat) (P : pm_T) (h0 hm ao : Nat) (th : Int32) (p1 : Int32) (p2 : Int32) (p3 : Int32) (p4 : Int32) (hI : iv_I P ac h0 hm ao th) : ∃ (fs : List Value) (post : Option Value → pm_T → Prop) (xp : String → pm_T → Prop), P h0 = some (.inr (0, fs)) ∧ cx_V l yy_C_hydrant bb_C_hydrant 6 (some .int) ({ frames := 7, cells := 5, slots := 35, locals := 140 } : Room) z D ac sa P [.ref h0, .int p1, .int p2, .int p3, .int p4] post xp ∧ (∀ v P1, post v P1 → ∃ (r : Int32) (fo : Nat → Int64), v = some (.int r) ∧ P1 ao = some (iv_o ac fo) ∧ ∀ x : Nat → Int64, ∃ (vs : List Value) (mp : Option Value → pm_T → Prop), (pm_up P1 ao (iv_o ac x)) hm = some (.inr (6, vs)) ∧ cx_M l yy_M_hydrant bb_M_hydrant 5 (some .int) ({ frames := 3, cells := 0, slots := 0, locals := 70 } : Room) z D ac sa (pm_up P1 ao (iv_o ac x)) [.ref hm, .int p1, .int p2, .int p3, .int p4] mp ∧ ∀ w P3, mp w P3 → w = some (.int r) ∧ iv_I P3 ac h0 hm ao 0 ∧ P3 ao = some (iv_o ac x)) ∧ (∀ E P1, xp E P1 → ∃ cd : Int32, ((E = xn_IAE ∧ cd = 1) ∨ (E = xn_IOB ∧ cd = 2) ∨ (E = xn_UOE ∧ cd = 3)) ∧ ∃ (vs : List Value) (mp : Option Value → pm_T → Prop), P1 hm = some (.inr (6, vs)) ∧ cx_M l yy_M_hydrant bb_M_hydrant 5 (some .int) ({ frames := 3, cells := 0, slots := 0, locals := 70 } : Room) z D ac sa (P1) [.ref hm, .int p1, .int p2, .int p3, .int p4] mp ∧ ∀ w P3, mp w P3 → (∃ b, w = some (.int b)) ∧ iv_I P3 ac h0 hm ao cd) := by
  obtain ⟨ad, ma, n, t, al, so, fH, fT, hv, tv, ov, aw, ct, fw, lm, cn, lt, ks, kf, fC, fY, fB, mv, hq, tq, wn, fo0, hC, hW, hD, hO, hP⟩ := hI
  obtain ⟨g0, g1, g2, g3, g4, g6, g5, g7, g8, g9, gn, gy, gt⟩ := id hC
  obtain ⟨hPH, hPO, hPT, hPB, hPL⟩ := id hP
  have hn40 : n ≤ 40 := hPB.1.1
  have ht100 : t ≤ 100 := hPB.1.2
  refine ⟨_, _, _, g0, c_C_hydrant l hT z D ac sa P h0 (ad 1) (ad 2) (ad 3) (ad 4) (ad 5) (nI n) (nI t) al fH lm p1 p2 p3 p4 g0 g1 g3, ?_, ?_⟩
  · rintro v P1 ⟨⟨x0, x1, x2, x3, -⟩, rfl, q, qa, ⟨nq, nqa⟩, f1, f2, f3, f4, fr⟩
    have hn : n < 40 := by have h := x3.2; rw [show (40 : Int32) = nI 40 from rfl, nI_ltI (by omega) (by decide)] at h; exact h
    rw [nI_clamp (show n < 2 ^ 31 by omega)] at f3
    rw [nI_1] at f4
    have hC1 := hC.newh nq nqa f1 f2 f3 f4 fr
    have hW1 : md_W P1 ac hm ma mv th (nI n) al (nI t) so := hW.keep (fr hm (by rw [hW.1]; exact fun h => nomatch h) (md_ne hW g0 rfl).1.symm (md_ne hW g1 rfl).1.symm) (fun k hk => fr (ma k) (by rw [hW.2.1 k hk]; exact fun h => nomatch h) ((md_ne hW g0 rfl).2 k hk).symm ((md_ne hW g1 rfl).2 k hk).symm)
    have hO1 : P1 ao = some (iv_o ac fo0) := by rw [fr ao (by rw [hO]; exact fun h => nomatch h) (pm_ne hO g0 (by simp)) (pm_ne hO g1 (by simp))]; exact hO
    refine ⟨_, fo0, rfl, hO1, fun x => ?_⟩
    have hC2 := hC1.out hO1 (x := iv_o ac x)
    have hW2 := hW1.up (x := iv_o ac x) (md_neo hW1 hO1)
    have hO2 : pm_up P1 ao (iv_o ac x) ao = some (iv_o ac x) := pm_s
    refine ⟨_, _, hW2.1, c_M_hydrant l z D ac sa _ hm ma mv th al so n t hn40 ht100 p1 p2 p3 p4 hW2, ?_⟩
    intro w P3 hp
    obtain ⟨hp1, -, hF⟩ := hp
    have hG : (su_gs (su_an (su_in p3 0 19) (su_in p4 0 2)) (su_pm p1 p2) (su_lt (nI n) 40) 1) = 0 := by rw [in_1l (c := 20) (by decide) x0, in_1l (c := 3) (by decide) x1, pm_1 x2, su_lt, if_neg (Int32.not_le.mpr x3.2)]; decide
    obtain ⟨e1, hw3⟩ := hp1 hG
    rw [hG, nI_1] at hw3
    refine ⟨e1, iv_fin hC2 hW2 hD hO2 hF hw3 (hq := va_up hq n q) (tq := tq) (wn := va_up wn n 0) ?_⟩
    have hqn : ∀ k, k < n → hq k ≠ q := fun k hk e => by have h := (gy k _ (hq_at hPH hk)).1; rw [e, nq] at h; cases h
    have hnt := su_no_t (oh := mv 10) (dy := mv 11) (h := nI n) (t := t) (fun i hi e => by
      obtain ⟨j, hj, e2⟩ := hPB.2.2.2.2.2.2.1 i hi
      rw [e2, nI_eq (by omega) (by omega)] at e
      omega)
    obtain ⟨b1, b2, b3, b4, b5, b6, b7, b8⟩ := id hPB
    obtain ⟨z4, z5, z8⟩ := b8 n (Nat.le_refl n) hn
    obtain ⟨m3, hm3, em3⟩ := su_in_ti (v := p3) (b := 19) (by decide) (by rw [show nI 19 = (19 : Int32) from rfl, in_1l (c := 20) (by decide) x0]; decide)
    refine ⟨⟨fun k => ?_, fun i j hi hj e => ?_, fun k hk => ?_⟩, fun k hk => ?_, hPT, ⟨⟨by omega, ht100⟩, b2, b3, fun k hk => ?_, b5, b6, fun i hi => ?_, fun k h1 h2 => b8 k (by omega) h2⟩, hPL⟩
    · by_cases hkn : k = n
      · rw [hkn, vq_s, vq_s, if_pos (by omega)]
      · rw [vq_n hkn, vq_n hkn, hPH.1 k]
        by_cases h1 : k < n
        · rw [if_pos h1, if_pos (by omega)]
        · rw [if_neg h1, if_neg (by omega)]
    · have hai : ∀ k, k < n → aw (hq k) ≠ qa := fun k hk e => by have h := (gy k _ (hq_at hPH hk)).2.1; rw [e, nqa] at h; cases h
      by_cases hi1 : i = n
      · by_cases hj1 : j = n
        · omega
        · rw [hi1, vq_s, vq_s, vq_n hj1, vq_n (hqn j (by omega))] at e
          exact absurd e.symm (hai j (by omega))
      · by_cases hj1 : j = n
        · rw [hj1, vq_s, vq_s, vq_n hi1, vq_n (hqn i (by omega))] at e
          exact absurd e (hai i (by omega))
        · rw [vq_n hi1, vq_n hj1, vq_n (hqn i (by omega)), vq_n (hqn j (by omega))] at e
          exact hPH.2.1 i j (by omega) (by omega) e
    · by_cases hkn : k = n
      · subst hkn
        simp only [vq_s, upd_s]
        refine ⟨rfl, by first | exact upd_s.symm | rfl, by first | exact upd_s.symm | rfl, by first | exact upd_s.symm | rfl, by first | exact upd_s.symm | rfl, z5.symm, z4.symm, ?_, ?_, fun m hm => ?_⟩
        · show (0 : Int32) = nI (su_nct (mv 10) (nI k) t)
          rw [hnt.1]; rfl
        · show none = (su_cm (mv 10) (mv 11) (nI k) t).map tq
          rw [hnt.2]; rfl
        · show su_bit 0 (nI m) = mv 8 (12 * k + m)
          rw [z8 m hm]
          exact su_bit_0 m hm
      · have hk1 : k < n := by omega
        obtain ⟨t0, t1, t2, t3, t4, t6, t7, t8, t9, ta⟩ := hPH.2.2 k hk1
        simp only [vq_n hkn, vq_n (hqn k hk1), upd_n (hqn k hk1)]
        exact ⟨t0, t1.trans (upd_n hkn).symm, t2.trans (upd_n hkn).symm, t3.trans (upd_n hkn).symm, t4.trans (upd_n hkn).symm, t6, t7, t8, t9, ta⟩
    · by_cases hkn : k = n
      · subst hkn
        rw [vq_s, vq_s, vq_s]
        exact ⟨by omega, z5, fun i hi => ⟨fun h => absurd h (Nat.not_lt_zero i), fun _ => rfl⟩⟩
      · have hk1 : k < n := by omega
        rw [vq_n hkn, vq_n hkn, vq_n (hqn k hk1)]
        exact hPO k hk1
    · by_cases hkn : k = n
      · subst hkn
        refine ⟨?_, ⟨m3, by omega, ?_⟩, fun _ m hm => z8 m hm⟩
        · show su_pm (upd (mv 0) k p1 k) (upd (mv 1) k p2 k) = 1
          rw [upd_s, upd_s]; exact pm_1 x2
        · show upd (mv 2) k p3 k = nI m3
          rw [upd_s]; exact em3
      · have hk1 : k < n := by omega
        obtain ⟨c1, c2, c3⟩ := b4 k hk1
        refine ⟨?_, ?_, ?_⟩
        · show su_pm (upd (mv 0) n p1 k) (upd (mv 1) n p2 k) = 1
          rw [upd_n hkn, upd_n hkn]; exact c1
        · show ∃ m, m < 20 ∧ upd (mv 2) n p3 k = nI m
          rw [upd_n hkn]; exact c2
        · show ¬ upd (mv 3) n p4 k = 2 → ∀ m, m < 12 → mv 8 (12 * k + m) = 0
          rw [upd_n hkn]; exact c3
    · obtain ⟨j, hj, e⟩ := b7 i hi
      exact ⟨j, by omega, e⟩
  · rintro E P1 ⟨eP, hx⟩
    have eP := eP.symm
    subst eP
    rcases hx with ⟨x0, rfl⟩ | ⟨y0, (⟨x1, rfl⟩ | ⟨y1, (⟨x2, rfl⟩ | ⟨y2, (⟨x3, rfl⟩ | ⟨-, hx9⟩)⟩)⟩)⟩
    · skip
      refine ⟨1, .inl ⟨rfl, rfl⟩, _, _, hW.1, c_M_hydrant l z D ac sa P hm ma mv th al so n t hn40 ht100 p1 p2 p3 p4 hW, ?_⟩
      intro w P3 hp
      obtain ⟨-, hp2, hF⟩ := hp
      have hG : (su_gs (su_an (su_in p3 0 19) (su_in p4 0 2)) (su_pm p1 p2) (su_lt (nI n) 40) 1) = 1 := by rw [in_0l (c := 20) (by decide) x0, su_an, if_pos rfl]; exact if_pos rfl
      obtain ⟨e1, hw3⟩ := hp2 (by rw [hG]; decide)
      rw [hG] at hw3
      exact ⟨⟨0, e1⟩, (iv_fin hC hW hD hO hF hw3 hP).1⟩
    · skip
      refine ⟨1, .inl ⟨rfl, rfl⟩, _, _, hW.1, c_M_hydrant l z D ac sa P hm ma mv th al so n t hn40 ht100 p1 p2 p3 p4 hW, ?_⟩
      intro w P3 hp
      obtain ⟨-, hp2, hF⟩ := hp
      have hG : (su_gs (su_an (su_in p3 0 19) (su_in p4 0 2)) (su_pm p1 p2) (su_lt (nI n) 40) 1) = 1 := by rw [in_1l (c := 20) (by decide) y0, in_0l (c := 3) (by decide) x1]; simp [su_an, su_gs]
      obtain ⟨e1, hw3⟩ := hp2 (by rw [hG]; decide)
      rw [hG] at hw3
      exact ⟨⟨0, e1⟩, (iv_fin hC hW hD hO hF hw3 hP).1⟩
    · skip
      refine ⟨2, .inr (.inl ⟨rfl, rfl⟩), _, _, hW.1, c_M_hydrant l z D ac sa P hm ma mv th al so n t hn40 ht100 p1 p2 p3 p4 hW, ?_⟩
      intro w P3 hp
      obtain ⟨-, hp2, hF⟩ := hp
      have hG : (su_gs (su_an (su_in p3 0 19) (su_in p4 0 2)) (su_pm p1 p2) (su_lt (nI n) 40) 1) = 2 := by rw [in_1l (c := 20) (by decide) y0, in_1l (c := 3) (by decide) y1, pm_0 x2]; simp [su_an, su_gs]
      obtain ⟨e1, hw3⟩ := hp2 (by rw [hG]; decide)
      rw [hG] at hw3
      exact ⟨⟨0, e1⟩, (iv_fin hC hW hD hO hF hw3 hP).1⟩
    · skip
      refine ⟨3, .inr (.inr (⟨rfl, rfl⟩)), _, _, hW.1, c_M_hydrant l z D ac sa P hm ma mv th al so n t hn40 ht100 p1 p2 p3 p4 hW, ?_⟩
      intro w P3 hp
      obtain ⟨-, hp2, hF⟩ := hp
      have hG : (su_gs (su_an (su_in p3 0 19) (su_in p4 0 2)) (su_pm p1 p2) (su_lt (nI n) 40) 1) = 3 := by rw [in_1l (c := 20) (by decide) y0, in_1l (c := 3) (by decide) y1, pm_1 y2, su_lt, if_pos (Int32.not_lt.mp (fun h => x3 ⟨nI_pos (by omega), h⟩))]; decide
      obtain ⟨e1, hw3⟩ := hp2 (by rw [hG]; decide)
      rw [hG] at hw3
      exact ⟨⟨0, e1⟩, (iv_fin hC hW hD hO hF hw3 hP).1⟩
    · exact hx9.elim
