/-! ===== a26: a body's end: the reference (wip/whole2/lawa26.py) ===== -/
section
variable {nn : Nat} {T : Nat → Nat} {n M O : Nat} {G0 : wq_F} {c0 : List (List Nat)} {i t w s nw ns np N : Nat} {off voff ph : Nat → Nat} {cx : Nat → List Nat} {c cb : List Nat} {W : List (Nat × Nat × Nat × Nat)} {L : List (Nat × Nat)} {P Q : List (Nat × Nat × Nat)} {ls cs : List (List Nat)} {F G : wq_F}

theorem re_close {a0 a1 : Nat} {F1 : wq_F} (e : dk_214 F 6 = some (1, F1)) (hr : ry T n M i ls t w nw np W L P F1) (h53 : F1 0 53 = N) (hN : 1 ≤ N ∧ N ≤ 24) (ha : a0 < w) (hw : w < 13990) :
    ∃ H, dk_255 F a0 a1 = some (1, H) ∧ ry T n M i ls t (w + 1 + 1 + 1) nw np W L P H ∧ rm_fr F1 H ∧ (∀ d j, ¬ d = 0 → ¬ (20 ≤ d ∧ d ≤ 23 ∧ w ≤ j ∧ j ≤ w + 2) → ¬ (d = 21 ∧ j = a0) → H d j = F1 d j) ∧ (H 20 w = 14 ∧ H 20 (w + 1) = 38 ∧ H 20 (w + 2) = 25 ∧ H 21 (w + 2) = a1 ∧ H 21 a0 = w + 2) ∧ (H 0 53 + 1 = N ∧ H 0 50 = F1 31 N ∧ H 0 64 = 4294967295) := by
  have hw1 : F1 0 41 = w := hr.2.1.2.1
  unfold dk_255
  rw [e, od_bS]
  dsimp only
  rw [if_neg (by decide), dkS_30 (by omega), od_bS]
  dsimp only
  have t1 := pm_em_at (F := F1) (op := 14) (a := 0) (b := 0) (ln := 0)
  rw [hw1] at t1
  have r1 : ry T n M i ls t (w + 1) nw np W L P (pm_em F1 14 0 0 0) := ry_em hr
  have x1 : ∀ d j, ¬ (20 ≤ d ∧ d ≤ 23 ∧ j = w) → ¬ (d = 0 ∧ j = 41) → pm_em F1 14 0 0 0 d j = F1 d j := fun d j q1 q2 => pm_em_ne (by omega) q2
  have f1 : rm_fr F1 (pm_em F1 14 0 0 0) := rm_fr_em (rm_fr_refl _)
  generalize pm_em F1 14 0 0 0 = E1 at *
  have hw2 : E1 0 41 = w + 1 := r1.2.1.2.1
  rw [dkS_30 (by omega), od_bS]
  dsimp only
  have t2 := pm_em_at (F := E1) (op := 38) (a := 0) (b := 0) (ln := 0)
  rw [hw2] at t2
  have r2 : ry T n M i ls t (w + 1 + 1) nw np W L P (pm_em E1 38 0 0 0) := ry_em r1
  have x2 : ∀ d j, ¬ (20 ≤ d ∧ d ≤ 23 ∧ j = w + 1) → ¬ (d = 0 ∧ j = 41) → pm_em E1 38 0 0 0 d j = E1 d j := fun d j q1 q2 => pm_em_ne (by omega) q2
  have f2 : rm_fr F1 (pm_em E1 38 0 0 0) := rm_fr_em f1
  generalize pm_em E1 38 0 0 0 = E2 at *
  have y53 : E2 0 53 = N := (x2 0 53 (by omega) (by decide)).trans ((x1 0 53 (by omega) (by decide)).trans h53)
  have y31 : E2 31 N = F1 31 N := (x2 31 N (by omega) (by omega)).trans (x1 31 N (by omega) (by omega))
  rw [od_g1 (by omega), od_upS, od_letS, od_upS, od_g1 (by omega), od_upS]
  simp only [y53, y31]
  rw [show wq_up E2 0 50 (F1 31 N) 0 53 = N from (wq_up_at (by decide)).trans y53, show (N + (4294967296 - 1)) % 4294967296 = N - 1 by omega]
  have r3 : ry T n M i ls t (w + 1 + 1) nw np W L P (wq_up (wq_up E2 0 50 (F1 31 N)) 0 53 (N - 1)) := ry_up (ry_up r2 (by unfold ry_n; omega)) (by unfold ry_n; omega)
  rw [show wq_up (wq_up E2 0 50 (F1 31 N)) 0 53 (N - 1) 0 41 = w + 1 + 1 from r3.2.1.2.1]
  have r4 : ry T n M i ls t (w + 1 + 1) nw np W L P (wq_up (wq_up (wq_up E2 0 50 (F1 31 N)) 0 53 (N - 1)) 21 a0 (w + 1 + 1)) := ry_up r3 (by unfold ry_n; omega)
  have f4 : rm_fr F1 (wq_up (wq_up (wq_up E2 0 50 (F1 31 N)) 0 53 (N - 1)) 21 a0 (w + 1 + 1)) := rm_fr_up (rm_fr_up (rm_fr_up f2 (by decide) (by decide)) (by decide) (by decide)) (by decide) (fun z => absurd z (by decide))
  have x4 : ∀ d j, ¬ d = 0 → ¬ (d = 21 ∧ j = a0) → wq_up (wq_up (wq_up E2 0 50 (F1 31 N)) 0 53 (N - 1)) 21 a0 (w + 1 + 1) d j = E2 d j := fun d j q1 q2 => by rw [wq_up_ne q2, wq_up_cell q1, wq_up_cell q1]
  have z21 : wq_up (wq_up (wq_up E2 0 50 (F1 31 N)) 0 53 (N - 1)) 21 a0 (w + 1 + 1) 21 a0 = w + 1 + 1 := wq_up_same _ _ _ _
  have z53 : wq_up (wq_up (wq_up E2 0 50 (F1 31 N)) 0 53 (N - 1)) 21 a0 (w + 1 + 1) 0 53 = N - 1 := (wq_up_cell (by decide)).trans (wq_up_same _ _ _ _)
  have z50 : wq_up (wq_up (wq_up E2 0 50 (F1 31 N)) 0 53 (N - 1)) 21 a0 (w + 1 + 1) 0 50 = F1 31 N := (wq_up_cell (by decide)).trans ((wq_up_at (by decide)).trans (wq_up_same _ _ _ _))
  generalize wq_up (wq_up (wq_up E2 0 50 (F1 31 N)) 0 53 (N - 1)) 21 a0 (w + 1 + 1) = E4 at *
  have hw4 : E4 0 41 = w + 1 + 1 := r4.2.1.2.1
  rw [dkS_30 (by omega), od_bS]
  dsimp only
  rw [od_upS]
  have t5 := pm_em_at (F := E4) (op := 25) (a := a1) (b := 0) (ln := 0)
  rw [hw4] at t5
  have x5 : ∀ d j, ¬ (20 ≤ d ∧ d ≤ 23 ∧ j = w + 1 + 1) → ¬ (d = 0 ∧ (j = 41 ∨ j = 64)) → wq_up (pm_em E4 25 a1 0 0) 0 64 4294967295 d j = E4 d j := fun d j q1 q2 => (wq_up_ne (by omega)).trans (pm_em_ne (by omega) (by omega))
  refine ⟨wq_up (pm_em E4 25 a1 0 0) 0 64 4294967295, rfl, ry_up (ry_em r4) (by unfold ry_n; omega), rm_fr_up (rm_fr_em f4) (by decide) (by decide), fun d j q1 q2 q3 => ?_, ⟨?_, ?_, (wq_up_cell (by decide)).trans t5.1, (wq_up_cell (by decide)).trans t5.2.1, ?_⟩, ?_, ?_, wq_up_same _ _ _ _⟩
  · rw [x5 d j (by omega) (by omega), x4 d j q1 q3, x2 d j (by omega) (by omega), x1 d j (by omega) (by omega)]
  · rw [x5 20 w (by omega) (by omega), x4 20 w (by decide) (by omega), x2 20 w (by omega) (by omega)]; exact t1.1
  · rw [x5 20 (w + 1) (by omega) (by omega), x4 20 (w + 1) (by decide) (by omega)]; exact t2.1
  · rw [x5 21 a0 (by omega) (by omega)]; exact z21
  · rw [x5 0 53 (by omega) (by omega), z53]; omega
  · rw [x5 0 50 (by omega) (by omega)]; exact z50
end
