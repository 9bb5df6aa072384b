/-! ===== a19: a body is opened: the reference (wip/whole2/lawa19.py) ===== -/
section
variable {nn : Nat} {T : Nat → Nat} {n M O : Nat} {G0 : wq_F} {c0 : List (List Nat)} {i t w s nw ns np N : Nat} {off voff ph : Nat → Nat} {cx : Nat → List Nat} {c cb : List Nat} {W : List (Nat × Nat × Nat × Nat)} {L : List (Nat × Nat)} {P Q : List (Nat × Nat × Nat)} {ls cs : List (List Nat)} {F G : wq_F}

/-- the reference behind a body's (: the jump, the function, its level, its first step -/
theorem re_open {sf : Nat} (hM : tk_M T n M) (hr : ry T n M i ls t w nw np W L P F) (hq : tk_k T n i = 5 ∧ tk_V T n (tk_pos T n i) = 40) (hnp : np < 50) (hN : F 0 53 + 1 = N) (hN2 : N ≤ 24) (hw : w < 13990) :
    ∃ H, dk_253 nn F sf = (if 0 < sf ∧ sf < 2147483648 then od_up H 0 20 0 fun F60 => (dk_21 nn F60 18446744075645578342).bind fun y63 => (dk_22 nn y63.2 0).bind fun y67 => (dk_210 y67.2).bind fun y71 => (dk_219 y71.2 y71.1).bind fun y75 => (dk_220 y75.2 y67.1 y75.1).bind fun y79 => dk_253_175 nn y79.2 w np else dk_253_175 nn H w np) ∧ ry T n M i ls t (w + 1 + 1) nw (np + 1) W L P H ∧ rm_fr F H ∧
      (∀ d j, ¬ d = 0 → ¬ (20 ≤ d ∧ d ≤ 23 ∧ (j = w ∨ j = w + 1)) → ¬ ((d = 31 ∨ d = 32) ∧ j = N) → ¬ ((d = 12 ∨ (14 ≤ d ∧ d ≤ 17)) ∧ j = np) → H d j = F d j) ∧
      (H 20 w = 21 ∧ H 20 (w + 1) = 0) ∧ (H 31 N = F 0 50 ∧ H 32 N = np) ∧ (H 12 np = w + 1 ∧ H 14 np = 0 ∧ H 15 np = 0 ∧ H 16 np = 0 ∧ H 17 np = 1 + lc T (tk_pos T n i)) ∧ (H 0 53 = N ∧ H 0 50 = F 0 50) := by
  have hw2 : F 0 41 = w := hr.2.1.2.1
  have h34 : F 0 34 = np := hr.2.1.2.2.2
  unfold dk_253
  rw [pm_isSign hM hr.1 (by decide), od_bS]
  dsimp only
  rw [if_ck, if_pos hq, if_neg (by omega), dkS_30 (by omega), od_bS]
  dsimp only
  rw [hw2]
  have hat := pm_em_at (F := F) (op := 21) (a := 0) (b := 0) (ln := 0)
  rw [hw2] at hat
  have r0 : ry T n M i ls t (w + 1) nw np W L P (pm_em F 21 0 0 0) := ry_em hr
  have x0 : ∀ d j, ¬ (20 ≤ d ∧ d ≤ 23 ∧ j = w) → ¬ (d = 0 ∧ j = 41) → pm_em F 21 0 0 0 d j = F d j := fun d j q1 q2 => pm_em_ne (by omega) q2
  have f0 : rm_fr F (pm_em F 21 0 0 0) := rm_fr_em (rm_fr_refl _)
  generalize pm_em F 21 0 0 0 = E0 at *
  simp only [show E0 0 34 = np from r0.2.1.2.2.2]
  rw [od_letS, Nat.mod_eq_of_lt (show np + 1 < 4294967296 by omega), od_upS]
  have r1 := ry_0 (j := 34) (v := np + 1) r0 (by decide)
  rw [if_neg (by decide), if_neg (by decide), if_pos rfl] at r1
  rw [od_letS, show wq_up E0 0 34 (np + 1) 0 53 + 1 = N from by rw [wq_up_at (by decide), x0 0 53 (by omega) (by decide)]; exact hN, Nat.mod_eq_of_lt (show N < 4294967296 by omega), od_upS]
  have r2 : ry T n M i ls t (w + 1) nw (np + 1) W L P (wq_up (wq_up E0 0 34 (np + 1)) 0 53 N) := ry_up r1 (by unfold ry_n; omega)
  have f2 : rm_fr F (wq_up (wq_up E0 0 34 (np + 1)) 0 53 N) := rm_fr_up (rm_fr_up f0 (by decide) (by decide)) (by decide) (by decide)
  have x2 : ∀ d j, ¬ d = 0 → wq_up (wq_up E0 0 34 (np + 1)) 0 53 N d j = E0 d j := fun d j q => (wq_up_cell q).trans (wq_up_cell q)
  have y2 : wq_up (wq_up E0 0 34 (np + 1)) 0 53 N 0 53 = N := wq_up_same _ _ _ _
  have z2 : wq_up (wq_up E0 0 34 (np + 1)) 0 53 N 0 50 = F 0 50 := by rw [wq_up_at (by decide), wq_up_at (by decide), x0 0 50 (by omega) (by decide)]
  generalize wq_up (wq_up E0 0 34 (np + 1)) 0 53 N = E2 at *
  rw [y2, z2, od_g1 (by omega), od_upS]
  have y3 : wq_up E2 31 N (F 0 50) 0 53 = N := (wq_up_cell (by decide)).trans y2
  rw [y3, od_g1 (by omega), od_upS, od_g1 (by omega), od_upS, od_g1 (by omega), od_upS, od_g1 (by omega), od_upS]
  have r3 : ry T n M i ls t (w + 1) nw (np + 1) W L P (wq_up (wq_up (wq_up (wq_up (wq_up E2 31 N (F 0 50)) 32 N np) 14 np 0) 15 np 0) 16 np 0) := ry_up (ry_up (ry_up (ry_up (ry_up r2 (by unfold ry_n; omega)) (by unfold ry_n; omega)) (by unfold ry_n; omega)) (by unfold ry_n; omega)) (by unfold ry_n; omega)
  have f3 : rm_fr F (wq_up (wq_up (wq_up (wq_up (wq_up E2 31 N (F 0 50)) 32 N np) 14 np 0) 15 np 0) 16 np 0) := rm_fr_up (rm_fr_up (rm_fr_up (rm_fr_up (rm_fr_up f2 (by decide) (fun z => absurd z (by decide))) (by decide) (fun z => absurd z (by decide))) (by decide) (fun z => absurd z (by decide))) (by decide) (fun z => absurd z (by decide))) (by decide) (fun z => absurd z (by decide))
  have x3 : ∀ d j, ¬ ((d = 31 ∨ d = 32) ∧ j = N) → ¬ (14 ≤ d ∧ d ≤ 16 ∧ j = np) → wq_up (wq_up (wq_up (wq_up (wq_up E2 31 N (F 0 50)) 32 N np) 14 np 0) 15 np 0) 16 np 0 d j = E2 d j := fun d j q1 q2 => by
    rw [wq_up_ne (by omega), wq_up_ne (by omega), wq_up_ne (by omega), wq_up_ne (by omega), wq_up_ne (by omega)]
  have c31 : wq_up (wq_up (wq_up (wq_up (wq_up E2 31 N (F 0 50)) 32 N np) 14 np 0) 15 np 0) 16 np 0 31 N = F 0 50 := by rw [wq_up_cell (by decide), wq_up_cell (by decide), wq_up_cell (by decide), wq_up_cell (by decide), wq_up_same]
  have c32 : wq_up (wq_up (wq_up (wq_up (wq_up E2 31 N (F 0 50)) 32 N np) 14 np 0) 15 np 0) 16 np 0 32 N = np := by rw [wq_up_cell (by decide), wq_up_cell (by decide), wq_up_cell (by decide), wq_up_same]
  have c14 : wq_up (wq_up (wq_up (wq_up (wq_up E2 31 N (F 0 50)) 32 N np) 14 np 0) 15 np 0) 16 np 0 14 np = 0 := by rw [wq_up_cell (by decide), wq_up_cell (by decide), wq_up_same]
  have c15 : wq_up (wq_up (wq_up (wq_up (wq_up E2 31 N (F 0 50)) 32 N np) 14 np 0) 15 np 0) 16 np 0 15 np = 0 := by rw [wq_up_cell (by decide), wq_up_same]
  have c16 : wq_up (wq_up (wq_up (wq_up (wq_up E2 31 N (F 0 50)) 32 N np) 14 np 0) 15 np 0) 16 np 0 16 np = 0 := wq_up_same _ _ _ _
  generalize wq_up (wq_up (wq_up (wq_up (wq_up E2 31 N (F 0 50)) 32 N np) 14 np 0) 15 np 0) 16 np 0 = E3 at *
  rw [pm_line hM r3.1, od_bS]
  dsimp only
  rw [od_g1 (by omega), od_upS, od_g1 (by omega), show wq_up E3 17 np (1 + lc T (tk_pos T n i)) 0 41 = w + 1 from (wq_up_cell (by decide)).trans r3.2.1.2.1, od_upS]
  have r4 : ry T n M i ls t (w + 1) nw (np + 1) W L P (wq_up (wq_up E3 17 np (1 + lc T (tk_pos T n i))) 12 np (w + 1)) := ry_up (ry_up r3 (by unfold ry_n; omega)) (by unfold ry_n; omega)
  have f4 : rm_fr F (wq_up (wq_up E3 17 np (1 + lc T (tk_pos T n i))) 12 np (w + 1)) := rm_fr_up (rm_fr_up f3 (by decide) (fun z => absurd z (by decide))) (by decide) (fun z => absurd z (by decide))
  have x4 : ∀ d j, ¬ ((d = 12 ∨ d = 17) ∧ j = np) → wq_up (wq_up E3 17 np (1 + lc T (tk_pos T n i))) 12 np (w + 1) d j = E3 d j := fun d j q => by rw [wq_up_ne (by omega), wq_up_ne (by omega)]
  have c12 : wq_up (wq_up E3 17 np (1 + lc T (tk_pos T n i))) 12 np (w + 1) 12 np = w + 1 := wq_up_same _ _ _ _
  have c17 : wq_up (wq_up E3 17 np (1 + lc T (tk_pos T n i))) 12 np (w + 1) 17 np = 1 + lc T (tk_pos T n i) := by rw [wq_up_cell (by decide), wq_up_same]
  generalize wq_up (wq_up E3 17 np (1 + lc T (tk_pos T n i))) 12 np (w + 1) = E4 at *
  have hw4 : E4 0 41 = w + 1 := r4.2.1.2.1
  rw [dkS_30 (by omega), od_bS]
  dsimp only
  have hat4 := pm_em_at (F := E4) (op := 0) (a := 0) (b := 0) (ln := 0)
  rw [hw4] at hat4
  have x5 : ∀ d j, ¬ (20 ≤ d ∧ d ≤ 23 ∧ j = w + 1) → ¬ (d = 0 ∧ j = 41) → pm_em E4 0 0 0 0 d j = E4 d j := fun d j q1 q2 => pm_em_ne (by omega) q2
  refine ⟨pm_em E4 0 0 0 0, rfl, ry_em r4, rm_fr_em f4, fun d j q1 q2 q3 q4 => ?_, ⟨?_, hat4.1⟩, ⟨?_, ?_⟩, ⟨?_, ?_, ?_, ?_, ?_⟩, ⟨?_, ?_⟩⟩
  · rw [x5 d j (by omega) (by omega), x4 d j (by omega), x3 d j (by omega) (by omega), x2 d j q1, x0 d j (by omega) (by omega)]
  · rw [x5 20 w (by omega) (by omega), x4 20 w (by omega), x3 20 w (by omega) (by omega), x2 20 w (by decide)]; exact hat.1
  · rw [x5 31 N (by omega) (by omega), x4 31 N (by omega)]; exact c31
  · rw [x5 32 N (by omega) (by omega), x4 32 N (by omega)]; exact c32
  · rw [x5 12 np (by omega) (by omega)]; exact c12
  · rw [x5 14 np (by omega) (by omega), x4 14 np (by omega)]; exact c14
  · rw [x5 15 np (by omega) (by omega), x4 15 np (by omega)]; exact c15
  · rw [x5 16 np (by omega) (by omega), x4 16 np (by omega)]; exact c16
  · rw [x5 17 np (by omega) (by omega)]; exact c17
  · rw [x5 0 53 (by omega) (by omega), x4 0 53 (by omega), x3 0 53 (by omega) (by omega)]; exact y2
  · rw [x5 0 50 (by omega) (by omega), x4 0 50 (by omega), x3 0 50 (by omega) (by omega)]; exact z2
end
