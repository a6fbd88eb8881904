/-! the two sides at their start -/
def iv_ad (aH aT aL aK aW ak aC aY aB : Nat) : Nat → Nat
  | 1 => aH
  | 2 => aT
  | 3 => aL
  | 4 => aK
  | 5 => aW
  | 6 => ak
  | 7 => aC
  | 8 => aY
  | 9 => aB
  | _ => 0
set_option maxRecDepth 100000 in
theorem iv_start {P2 P4 : pm_T} {ac : Nat → ClassId} {h0 hm ao aH aT aL aK aW ak aC aY aB : Nat} {lm : Nat → Int32} {ma : Nat → Nat} {mv : Nat → Nat → Int32} {bl : va_E}
    (hlm : ∀ j, j < 20 → lm j = 20000) (gn : aY ≠ aB) (g0 : P2 h0 = some (.inr (0, [.ref aH, .ref aT, .ref aL, .ref aK, .ref aW, .int 0, .int 0, .int 0])))
    (g1 : P2 aH = some (.inl (ac 3, 40, .inr (.inr (.inr (.inr (fun _ => none))))))) (g2 : P2 aT = some (.inl (ac 4, 100, .inr (.inr (.inr (.inr (fun _ => none)))))))
    (g3 : P2 aL = some (.inl (ac 0, 20, .inl lm))) (g4 : P2 aK = some (.inr (4, [.ref ak, .int 0]))) (g6 : P2 ak = some (.inl (ac 0, 40, .inl (fun _ => 0))))
    (g5 : P2 aW = some (.inr (5, [.ref aC, .ref aY, .ref aB, .int 0, .int 0]))) (g7 : P2 aC = some (.inl (ac 3, 6, .inr (.inr (.inr (.inr (fun _ => none)))))))
    (g8 : P2 aY = some (.inl (ac 0, 6, .inl (fun _ => 0)))) (g9 : P2 aB = some (.inl (ac 0, 6, .inl (fun _ => 0))))
    (hm2 : P2 hm = none) (hma : ∀ k, k < 18 → pm_up P2 hm bl (ma k) = none) (hmv : ∀ k j, k < 18 → ¬ k = 9 → mv k j = 0) (hm9 : ∀ j, j < 20 → mv 9 j = 20000) (hW : md_W P4 ac hm ma mv 0 0 0 0 0)
    (hK4 : ∀ a : Nat, pm_up P2 hm bl a ≠ none → a ≠ hm → P4 a = pm_up P2 hm bl a) (hao : P4 ao = none) : iv_I (pm_up P4 ao (iv_o ac (fun _ => 0))) ac h0 hm ao 0 := by
  have k3 : ∀ a e, P2 a = some e → pm_up P2 hm bl a = some e := fun a e h => by rw [pm_n (pm_nx h hm2)]; exact h
  have k4 : ∀ a e, P2 a = some e → P4 a = some e := fun a e h => by rw [hK4 a (by rw [k3 a e h]; exact fun h9 => nomatch h9) (pm_nx h hm2)]; exact k3 a e h
  have k5 : ∀ a e, P2 a = some e → pm_up P4 ao (iv_o ac (fun _ => 0)) a = some e := fun a e h => by rw [pm_n (pm_nx (k4 a e h) hao)]; exact k4 a e h
  have kd : ∀ a e, P2 a = some e → ∀ k, k < 18 → a ≠ ma k := fun a e h k hk => pm_nx (k3 a e h) (hma k hk)
  have hW1 : md_W P4 ac hm ma mv 0 (nI 0) 0 (nI 0) 0 := hW
  have z : ∀ k : Nat, ¬ k < 0 := Nat.not_lt_zero
  refine ⟨iv_ad aH aT aL aK aW ak aC aY aB, ma, 0, 0, 0, 0, fun _ => none, fun _ => none, fun _ _ => 0, fun _ _ => 0, fun _ _ => 0, fun _ => 0, fun _ => none, fun _ _ => none, lm, 0, 0, 0, fun _ => 0, fun _ => none, fun _ => 0, fun _ => 0, mv, fun _ => 0, fun _ => 0, fun _ => 0, fun _ => 0, ?_, hW1.up (md_new hW1 hao), fun k hk => ⟨kd _ _ g3 k hk, kd _ _ g6 k hk, kd _ _ g8 k hk, kd _ _ g9 k hk⟩, pm_s, ?_⟩
  · exact ⟨k5 _ _ g0, k5 _ _ g1, k5 _ _ g2, k5 _ _ g3, k5 _ _ g4, k5 _ _ g6, k5 _ _ g5, k5 _ _ g7, k5 _ _ g8, k5 _ _ g9, gn, fun k q h => (nomatch h), fun k x h => (nomatch h)⟩
  · refine ⟨⟨fun k => (if_neg (z k)).symm, fun i j hi => absurd hi (z i), fun k hk => absurd hk (z k)⟩, fun k hk => absurd hk (z k), ⟨fun k => (if_neg (z k)).symm, fun i hi => absurd hi (z i)⟩, ⟨⟨by decide, by decide⟩, .inl rfl, ⟨0, by decide, rfl⟩, fun k hk => absurd hk (z k), fun i hi => absurd hi (z i), fun i hi => absurd hi (z i), fun i hi => absurd hi (z i), fun k _ _ => ⟨hmv 4 k (by decide) (by decide), hmv 5 k (by decide) (by decide), fun m _ => hmv 8 _ (by decide) (by decide)⟩⟩, fun m hm => by rw [hlm m hm, hm9 m hm], rfl, fun i hi h6 => absurd hi (nI_pos (by omega))⟩
