/-! ===== a24: a level is left: the class (wip/whole2/lawa24.py) ===== -/
section
variable {nn : Nat} {T : Nat → Nat} {n M O : Nat} {G0 : wq_F} {c0 : List (List Nat)} {i t w s nw ns np N : Nat} {off voff ph : Nat → Nat} {cx : Nat → List Nat} {c cb : List Nat} {W : List (Nat × Nat × Nat × Nat)} {L : List (Nat × Nat)} {P Q : List (Nat × Nat × Nat)} {ls cs : List (List Nat)} {F G : wq_F}

theorem ce_160 (hc : cy T n G0 c0 O i cs s ns np (N + 1) Q G) (hN : 1 ≤ N ∧ N < 24) : ∃ K, dk_160 G = some (0, K) ∧ cy T n G0 c0 O i cs s ns np N Q K ∧ (∀ d j, ¬ (d = 59 ∧ (j = 3 ∨ j = 8)) → K d j = G d j) ∧ K 59 8 + 1 = N ∧ K 59 3 = G 63 N := by
  obtain ⟨h1, ⟨h2, h2b, h2c, h2d⟩, ⟨h3, h4⟩, ⟨h5, h6⟩, h7, h8⟩ := hc
  have hN8 : G 59 8 = N := by omega
  unfold dk_160
  rw [hN8, od_g1 hN.2, od_upS, od_letS, show wq_up G 59 3 (G 63 N) 59 8 = N from (wq_up_at (by decide)).trans hN8, show (N + (4294967296 - 1)) % 4294967296 = N - 1 by omega, od_upS]
  have x : ∀ d j, ¬ (d = 59 ∧ (j = 3 ∨ j = 8)) → wq_up (wq_up G 59 3 (G 63 N)) 59 8 (N - 1) d j = G d j := fun d j q => by rw [wq_up_ne (by omega), wq_up_ne (by omega)]
  have y8 : wq_up (wq_up G 59 3 (G 63 N)) 59 8 (N - 1) 59 8 = N - 1 := wq_up_same _ _ _ _
  have y3 : wq_up (wq_up G 59 3 (G 63 N)) 59 8 (N - 1) 59 3 = G 63 N := by rw [wq_up_at (by decide), wq_up_same]
  generalize wq_up (wq_up G 59 3 (G 63 N)) 59 8 (N - 1) = K at *
  exact ⟨K, rfl, ⟨px_at_x h1 (fun d j q => x d j (by omega)), ⟨(x 11 4 (by omega)).trans h2, (x 11 6 (by omega)).trans h2b, (x 11 14 (by omega)).trans h2c, by omega⟩, ⟨(x 56 11 (by omega)).trans h3, cy_pl_x h4 (fun j _ => x 58 j (by omega))⟩, ⟨by rw [x 56 12 (by omega)]; exact h5, by rw [x 56 12 (by omega)]; exact h6⟩, fun j hj => by rw [x 14 j (by omega)]; exact h7 j hj, fun l hl => by rw [x 65 l (by omega)]; exact h8 l (by omega)⟩, x, by omega, y3⟩
end
