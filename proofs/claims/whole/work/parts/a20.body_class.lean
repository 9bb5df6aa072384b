/-! ===== a20: a body is opened: the class (wip/whole2/lawa20.py) ===== -/
section
variable {nn : Nat} {T : Nat → Nat} {n M O : Nat} {G0 : wq_F} {c0 : List (List Nat)} {i t w s nw ns np N : Nat} {off voff ph : Nat → Nat} {cx : Nat → List Nat} {c cb : List Nat} {W : List (Nat × Nat × Nat × Nat)} {L : List (Nat × Nat)} {P Q : List (Nat × Nat × Nat)} {ls cs : List (List Nat)} {F G : wq_F}

/-- a function more -/
theorem ce_57 {ln : Nat} (hc : cy T n G0 c0 O i cs s ns np N Q G) (hnp : np < 50) : ∃ K, dk_57 G ln = some (np, K) ∧ cy T n G0 c0 O i cs s ns (np + 1) N Q K ∧ (∀ d j, ¬ ((18 ≤ d ∧ d ≤ 22) ∧ j = np) → ¬ (d = 11 ∧ j = 14) → K d j = G d j) ∧ (K 18 np = 0 ∧ K 19 np = 0 ∧ K 20 np = 0 ∧ K 21 np = ln ∧ K 22 np = 0) := by
  have h14 : G 11 14 = np := hc.2.1.2.2.1
  unfold dk_57
  rw [h14, od_g1 hnp, od_upS, od_g1 hnp, od_upS, od_g1 hnp, od_upS, od_g1 hnp, od_upS, od_g1 hnp, od_upS, od_letS]
  have c5 : cy T n G0 c0 O i cs s ns np N Q (wq_up (wq_up (wq_up (wq_up (wq_up G 19 np 0) 18 np 0) 20 np 0) 22 np 0) 21 np ln) := cy_up (cy_up (cy_up (cy_up (cy_up hc (by unfold cy_n; omega)) (by unfold cy_n; omega)) (by unfold cy_n; omega)) (by unfold cy_n; omega)) (by unfold cy_n; omega)
  have x5 : ∀ d j, ¬ ((18 ≤ d ∧ d ≤ 22) ∧ j = np) → wq_up (wq_up (wq_up (wq_up (wq_up G 19 np 0) 18 np 0) 20 np 0) 22 np 0) 21 np ln d j = G d j := fun d j q => by
    rw [wq_up_ne (by omega), wq_up_ne (by omega), wq_up_ne (by omega), wq_up_ne (by omega), wq_up_ne (by omega)]
  have y18 : wq_up (wq_up (wq_up (wq_up (wq_up G 19 np 0) 18 np 0) 20 np 0) 22 np 0) 21 np ln 18 np = 0 := by rw [wq_up_cell (by decide), wq_up_cell (by decide), wq_up_cell (by decide), wq_up_same]
  have y19 : wq_up (wq_up (wq_up (wq_up (wq_up G 19 np 0) 18 np 0) 20 np 0) 22 np 0) 21 np ln 19 np = 0 := by rw [wq_up_cell (by decide), wq_up_cell (by decide), wq_up_cell (by decide), wq_up_cell (by decide), wq_up_same]
  have y20 : wq_up (wq_up (wq_up (wq_up (wq_up G 19 np 0) 18 np 0) 20 np 0) 22 np 0) 21 np ln 20 np = 0 := by rw [wq_up_cell (by decide), wq_up_cell (by decide), wq_up_same]
  have y21 : wq_up (wq_up (wq_up (wq_up (wq_up G 19 np 0) 18 np 0) 20 np 0) 22 np 0) 21 np ln 21 np = ln := wq_up_same _ _ _ _
  have y22 : wq_up (wq_up (wq_up (wq_up (wq_up G 19 np 0) 18 np 0) 20 np 0) 22 np 0) 21 np ln 22 np = 0 := by rw [wq_up_cell (by decide), wq_up_same]
  generalize wq_up (wq_up (wq_up (wq_up (wq_up G 19 np 0) 18 np 0) 20 np 0) 22 np 0) 21 np ln = E at *
  rw [show E 11 14 = np from c5.2.1.2.2.1, Nat.mod_eq_of_lt (show np + 1 < 4294967296 by omega), od_upS]
  have g := cy_mk c5 (H := wq_up E 11 14 (np + 1)) (fun d j h1 h2 h3 => wq_up_ne (fun z => h2 (by omega))) (fun j hj => by rw [wq_up_cell (by decide)]; exact c5.2.2.2.2.1 j hj) (fun l hl => by rw [wq_up_cell (by decide)]; exact c5.2.2.2.2.2 l hl)
  rw [wq_up_same, wq_up_at (by decide), wq_up_at (by decide), c5.2.1.1, c5.2.1.2.1] at g
  exact ⟨wq_up E 11 14 (np + 1), rfl, g, fun d j q1 q2 => (wq_up_ne q2).trans (x5 d j q1), (wq_up_cell (by decide)).trans y18, (wq_up_cell (by decide)).trans y19, (wq_up_cell (by decide)).trans y20, (wq_up_cell (by decide)).trans y21, (wq_up_cell (by decide)).trans y22⟩
/-- a level more -/
theorem ce_83 {f : Nat} (hc : cy T n G0 c0 O i cs s ns np N Q G) (hN : 1 ≤ N ∧ N < 24) : ∃ K, dk_83 G f = some (0, K) ∧ cy T n G0 c0 O i cs s ns np (N + 1) Q K ∧ (∀ d j, ¬ ((62 ≤ d ∧ d ≤ 65) ∧ j = N) → ¬ (d = 59 ∧ j = 8) → K d j = G d j) ∧ (K 59 8 = N ∧ K 62 N = f ∧ K 63 N = G 59 3 ∧ K 64 N = 0 ∧ K 65 N = 4294967294) := by
  obtain ⟨h1, ⟨h2, h2b, h2c, h2d⟩, ⟨h3, h4⟩, ⟨h5, h6⟩, h7, h8⟩ := hc
  unfold dk_83
  rw [show G 59 8 + 1 = N from h2d, Nat.mod_eq_of_lt (show N < 4294967296 by omega), od_upS, wq_up_same, od_g1 hN.2, od_upS]
  have e1 : wq_up (wq_up G 59 8 N) 62 N f 59 8 = N := (wq_up_cell (by decide)).trans (wq_up_same _ _ _ _)
  have e1b : wq_up (wq_up G 59 8 N) 62 N f 59 3 = G 59 3 := (wq_up_cell (by decide)).trans (wq_up_at (by decide))
  rw [e1, e1b, od_g1 hN.2, od_upS]
  have e2 : wq_up (wq_up (wq_up G 59 8 N) 62 N f) 63 N (G 59 3) 59 8 = N := (wq_up_cell (by decide)).trans e1
  rw [e2, od_g1 hN.2, od_upS]
  have e3 : wq_up (wq_up (wq_up (wq_up G 59 8 N) 62 N f) 63 N (G 59 3)) 64 N 0 59 8 = N := (wq_up_cell (by decide)).trans e2
  rw [e3, od_g1 hN.2, od_upS]
  have x : ∀ d j, ¬ ((62 ≤ d ∧ d ≤ 65) ∧ j = N) → ¬ (d = 59 ∧ j = 8) → wq_up (wq_up (wq_up (wq_up (wq_up G 59 8 N) 62 N f) 63 N (G 59 3)) 64 N 0) 65 N 4294967294 d j = G d j := fun d j q1 q2 => by
    rw [wq_up_ne (by omega), wq_up_ne (by omega), wq_up_ne (by omega), wq_up_ne (by omega), wq_up_ne q2]
  have y8 : wq_up (wq_up (wq_up (wq_up (wq_up G 59 8 N) 62 N f) 63 N (G 59 3)) 64 N 0) 65 N 4294967294 59 8 = N := (wq_up_cell (by decide)).trans e3
  have y62 : wq_up (wq_up (wq_up (wq_up (wq_up G 59 8 N) 62 N f) 63 N (G 59 3)) 64 N 0) 65 N 4294967294 62 N = f := by rw [wq_up_cell (by decide), wq_up_cell (by decide), wq_up_cell (by decide), wq_up_same]
  have y63 : wq_up (wq_up (wq_up (wq_up (wq_up G 59 8 N) 62 N f) 63 N (G 59 3)) 64 N 0) 65 N 4294967294 63 N = G 59 3 := by rw [wq_up_cell (by decide), wq_up_cell (by decide), wq_up_same]
  have y64 : wq_up (wq_up (wq_up (wq_up (wq_up G 59 8 N) 62 N f) 63 N (G 59 3)) 64 N 0) 65 N 4294967294 64 N = 0 := by rw [wq_up_cell (by decide), wq_up_same]
  have y65 : wq_up (wq_up (wq_up (wq_up (wq_up G 59 8 N) 62 N f) 63 N (G 59 3)) 64 N 0) 65 N 4294967294 65 N = 4294967294 := wq_up_same _ _ _ _
  generalize wq_up (wq_up (wq_up (wq_up (wq_up G 59 8 N) 62 N f) 63 N (G 59 3)) 64 N 0) 65 N 4294967294 = K at *
  refine ⟨K, rfl, ⟨px_at_x h1 (fun d j q => x d j (by omega) (by omega)), ⟨(x 11 4 (by omega) (by omega)).trans h2, (x 11 6 (by omega) (by omega)).trans h2b, (x 11 14 (by omega) (by omega)).trans h2c, by omega⟩, ⟨(x 56 11 (by omega) (by omega)).trans h3, cy_pl_x h4 (fun j _ => x 58 j (by omega) (by omega))⟩, ⟨by rw [x 56 12 (by omega) (by omega)]; exact h5, by rw [x 56 12 (by omega) (by omega)]; exact h6⟩, fun j hj => by rw [x 14 j (by omega) (by omega)]; exact h7 j hj, fun l hl => ?_⟩, x, y8, y62, y63, y64, y65⟩
  by_cases q : l = N
  · rw [q, y65]
    exact okj_n (by decide)
  · rw [x 65 l (by omega) (by omega)]
    exact h8 l (by omega)
/-- the class behind a body's (: the function, its word, its level -/
theorem ce_open {ln : Nat} {g : Nat → Nat → wq_F → Option (Nat × wq_F)} (hc : cy T n G0 c0 O i cs s ns np N Q G) (hnp : np < 50) (hN : 1 ≤ N ∧ N < 24) (hs : s < 10000) : ∃ K, ((dk_57 G ln).bind fun y3 => (dk_78 y3.2 18 y3.1 4294967295 (y3.2 57 6)).bind fun y7 => od_g (y3.1 < 50) <| od_up y7.2 17 y3.1 (y7.2 11 4) fun F12 => (dk_83 F12 y3.1).bind fun y15 => g y3.1 y7.1 y15.2) = g np s K ∧ cy T n G0 c0 O i cs (s + 1) ns (np + 1) (N + 1) Q K ∧
      (∀ d j, ¬ ((17 ≤ d ∧ d ≤ 22) ∧ j = np) → ¬ (d = 11 ∧ (j = 14 ∨ j = 4)) → ¬ (12 ≤ d ∧ d ≤ 15 ∧ j = s) → ¬ ((62 ≤ d ∧ d ≤ 65) ∧ j = N) → ¬ (d = 59 ∧ j = 8) → K d j = G d j) ∧
      (K 17 np = s + 1 ∧ K 18 np = 0 ∧ K 19 np = 0 ∧ K 20 np = 0 ∧ K 21 np = ln ∧ K 22 np = 0) ∧ cI K s 18 np 4294967295 (G 57 6) ∧ (K 59 8 = N ∧ K 62 N = np ∧ K 63 N = G 59 3 ∧ K 64 N = 0 ∧ K 65 N = 4294967294) := by
  obtain ⟨K1, e1, c1, x1, y18, y19, y20, y21, y22⟩ := ce_57 (ln := ln) hc hnp
  have h4 := c1.2.1.1
  rw [e1, od_bS]
  dsimp only
  rw [dkS_78 (by omega), od_bS, h4]
  dsimp only
  have c2 := cy_em (op := 18) (a := np) (b := 4294967295) (ln := K1 57 6) c1 (okj_n (by decide))
  have x2 : ∀ d j, ¬ (12 ≤ d ∧ d ≤ 15 ∧ j = s) → ¬ (d = 11 ∧ j = 4) → pg_em K1 18 np 4294967295 (K1 57 6) d j = K1 d j := fun d j q1 q2 => pg_em_ne (by omega) q2
  have hat := pg_em_at (G := K1) (op := 18) (a := np) (b := 4294967295) (ln := K1 57 6)
  rw [h4] at hat
  generalize pg_em K1 18 np 4294967295 (K1 57 6) = K2 at *
  rw [od_g1 hnp, od_upS, c2.2.1.1]
  have c3 : cy T n G0 c0 O i cs (s + 1) ns (np + 1) N Q (wq_up K2 17 np (s + 1)) := cy_up c2 (by unfold cy_n; omega)
  have x3 : ∀ d j, ¬ (d = 17 ∧ j = np) → wq_up K2 17 np (s + 1) d j = K2 d j := fun d j q => wq_up_ne q
  have y17 : wq_up K2 17 np (s + 1) 17 np = s + 1 := wq_up_same _ _ _ _
  generalize wq_up K2 17 np (s + 1) = K3 at *
  obtain ⟨K, e4, c4, x4, z8, z62, z63, z64, z65⟩ := ce_83 (f := np) c3 hN
  rw [e4, od_bS]
  have k57 : K1 57 6 = G 57 6 := x1 57 6 (by omega) (by omega)
  refine ⟨K, rfl, c4, fun d j q1 q2 q3 q4 q5 => ?_, ⟨?_, ?_, ?_, ?_, ?_, ?_⟩, ⟨?_, ?_, ?_, ?_⟩, z8, z62, ?_, z64, z65⟩
  · rw [x4 d j q4 q5, x3 d j (by omega), x2 d j q3 (by omega), x1 d j (by omega) (by omega)]
  · rw [x4 17 np (by omega) (by omega)]; exact y17
  · rw [x4 18 np (by omega) (by omega), x3 18 np (by omega), x2 18 np (by omega) (by omega)]; exact y18
  · rw [x4 19 np (by omega) (by omega), x3 19 np (by omega), x2 19 np (by omega) (by omega)]; exact y19
  · rw [x4 20 np (by omega) (by omega), x3 20 np (by omega), x2 20 np (by omega) (by omega)]; exact y20
  · rw [x4 21 np (by omega) (by omega), x3 21 np (by omega), x2 21 np (by omega) (by omega)]; exact y21
  · rw [x4 22 np (by omega) (by omega), x3 22 np (by omega), x2 22 np (by omega) (by omega)]; exact y22
  · rw [x4 12 s (by omega) (by omega), x3 12 s (by omega)]; exact hat.1
  · rw [x4 13 s (by omega) (by omega), x3 13 s (by omega)]; exact hat.2.1
  · rw [x4 14 s (by omega) (by omega), x3 14 s (by omega)]; exact hat.2.2.1
  · rw [x4 15 s (by omega) (by omega), x3 15 s (by omega), ← k57]; exact hat.2.2.2.1
  · rw [z63, x3 59 3 (by omega), x2 59 3 (by omega) (by omega), x1 59 3 (by omega) (by omega)]
end
