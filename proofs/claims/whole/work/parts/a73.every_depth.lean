/-! ===== a73: everything at every depth (wip/whole2/lawa73.py) ===== -/
section
variable {nn : Nat} {T : Nat → Nat} {n M O : Nat} {G0 : wq_F} {c0 : List (List Nat)} {i t w s nw ns np N : Nat} {off voff ph : Nat → Nat} {cx : Nat → List Nat} {c cb : List Nat} {W : List (Nat × Nat × Nat × Nat)} {L : List (Nat × Nat)} {P Q : List (Nat × Nat × Nat)} {ls cs : List (List Nat)} {F G : wq_F}

theorem all_from (hM : tk_M T n M) (hn : 10000 < nn) (hc0 : c0.length ≤ 1400) (hO : O ≤ 20000) (hn2 : 14000 < nn) : ∀ (m D : Nat), D + m = 21 → (∀ d, D ≤ d → d ≤ 20 → B_ok nn T n M G0 c0 O d) ∧ ∀ d, D ≤ d → d ≤ 21 → E_ok nn T n M G0 c0 O d ∧ Bk_ok nn T n M G0 c0 O d := by
  intro m
  induction m with
  | zero =>
    intro D hD
    have hB : ∀ d, D ≤ d → d ≤ 20 → B_ok nn T n M G0 c0 O d := fun d a b => absurd a (by omega)
    have hE := E_all hM hn hc0 hO 0 D hD hB
    refine ⟨hB, fun d a b => ⟨hE d a b, block_ok hM hn hc0 hO b (fun z => absurd z (by omega)) (hE d a b)⟩⟩
  | succ m ih =>
    intro D hD
    obtain ⟨i1, i2⟩ := ih (D + 1) (by omega)
    have hBD : B_ok nn T n M G0 c0 O D := body_ok hM hn hc0 hO (by omega) (i2 (D + 1) (Nat.le_refl _) (by omega)).2
    have hB : ∀ d, D ≤ d → d ≤ 20 → B_ok nn T n M G0 c0 O d := fun d a b => by
      by_cases z : d = D
      · rw [z]
        exact hBD
      · exact i1 d (by omega) b
    have hE := E_all hM hn hc0 hO (m + 1) D hD hB
    have hT : Tb_ok nn T n M G0 c0 O D := Tb_of hM (fun z => hE (D + 2) (by omega) (by omega)) (by omega) hn hc0 hO
    have hS : St_ok nn T n M G0 c0 O D := st_which hM hn hc0 hO hn2 (by omega) (hE (D + 1) (by omega) (by omega)) (i2 (D + 1) (Nat.le_refl _) (by omega)).2 hBD hT
    refine ⟨hB, fun d a b => ⟨hE d a b, ?_⟩⟩
    by_cases z : d = D
    · rw [z]
      exact block_ok hM hn hc0 hO (by omega) (fun _ => hS) (hE D (Nat.le_refl _) (by omega))
    · exact (i2 d (by omega) b).2
/-- a block at depth 0 -/
theorem all_ok (hM : tk_M T n M) (hn : 10000 < nn) (hc0 : c0.length ≤ 1400) (hO : O ≤ 20000) (hn2 : 14000 < nn) (d : Nat) (hd : d ≤ 21) : Bk_ok nn T n M G0 c0 O d := ((all_from hM hn hc0 hO hn2 21 0 rfl).2 d (Nat.zero_le _) hd).2
theorem all_E (hM : tk_M T n M) (hn : 10000 < nn) (hc0 : c0.length ≤ 1400) (hO : O ≤ 20000) (hn2 : 14000 < nn) (d : Nat) (hd : d ≤ 21) : E_ok nn T n M G0 c0 O d := ((all_from hM hn hc0 hO hn2 21 0 rfl).2 d (Nat.zero_le _) hd).1
end
