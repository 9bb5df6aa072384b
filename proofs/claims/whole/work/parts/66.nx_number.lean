/-! ===== 66: a whole number's token is the same on both sides ===== -/
theorem nx_and {a b : Nat} (ha : a < 2) (hb : b < 2) : ev_oAnd a b = if a = 1 ∧ b = 1 then 1 else 0 := by
  rcases (show a = 0 ∨ a = 1 by omega) with rfl | rfl <;> rcases (show b = 0 ∨ b = 1 by omega) with rfl | rfl <;> rfl
theorem nx_decv_ge {T : Nat → Nat} {n : Nat} : ∀ f k v g, k ≤ (lx_decv T n f k v g).1 := by
  intro f
  induction f with
  | zero => intro k v g; exact Nat.le_refl _
  | succ f ih =>
    intro k v g
    by_cases q : lx_digit (lx_at T n k) = 0
    · rw [lx_decv_e q]
      exact Nat.le_refl _
    · rw [lx_decv_s q]
      exact Nat.le_trans (Nat.le_succ k) (ih _ _ _)
theorem nx_decv_gt {T : Nat → Nat} {n f k v g : Nat} (hf : 0 < f) (q : ¬ lx_digit (lx_at T n k) = 0) : k < (lx_decv T n f k v g).1 := by
  obtain ⟨f, rfl⟩ : ∃ f', f = f' + 1 := ⟨f - 1, by omega⟩
  rw [lx_decv_s q]
  exact nx_decv_ge f (k + 1) _ _
theorem nx_decv_g {T : Nat → Nat} {n : Nat} : ∀ f k v g, g < 2 → (lx_decv T n f k v g).2.2 < 2 := by
  intro f
  induction f with
  | zero => intro k v g hg; exact hg
  | succ f ih =>
    intro k v g hg
    by_cases q : lx_digit (lx_at T n k) = 0
    · rw [lx_decv_e q]
      exact hg
    · rw [lx_decv_s q]
      exact ih _ _ _ (lx_good2 _ _ _)
theorem nx_b2 {T T' : Nat → Nat} {n : Nat} (h : ∀ i, i < n → T' i = ev_b8 (T i) ∧ T i < 256) (k : Nat) : xx_b2 T' n k = xx_b2 T n k := by
  unfold xx_b2
  rw [nx_letE h, nx_digE h]
theorem nx_b2_lt (T : Nat → Nat) (n k : Nat) : xx_b2 T n k < 2 := by
  unfold xx_b2
  split <;> decide
theorem nx_b1_lt (a k lim : Nat) : xx_b1 a k lim < 2 := by
  unfold xx_b1
  split <;> decide
theorem nx_type {T T' : Nat → Nat} {n k g g' : Nat} (h : ∀ i, i < n → T' i = ev_b8 (T i) ∧ T i < 256) (hg : g < 2) (hgg : g = 1 ↔ ¬ g' = 0) : xx_type T' n k g = if lx_fin T n k g' = 2 then 3 else 1 := by
  by_cases Q : ¬ g' = 0 ∧ lx_letter (lx_at T n k) = 0 ∧ lx_digit (lx_at T n k) = 0
  · have f2 : lx_fin T n k g' = 2 := if_pos Q
    have b : xx_b2 T n k = 1 := if_pos Q.2
    unfold xx_type
    rw [nx_b2 h, b, nx_and hg (by decide), if_pos (show g = 1 ∧ 1 = 1 from ⟨hgg.mpr Q.1, rfl⟩), f2]
    rfl
  · have f7 : lx_fin T n k g' = 7 := if_neg Q
    have b : ¬ (g = 1 ∧ xx_b2 T n k = 1) := by
      rintro ⟨e1, e2⟩
      unfold xx_b2 at e2
      by_cases q : lx_letter (lx_at T n k) = 0 ∧ lx_digit (lx_at T n k) = 0
      · exact Q ⟨hgg.mp e1, q⟩
      · rw [if_neg q] at e2
        cases e2
    unfold xx_type
    rw [nx_b2 h, nx_and hg (nx_b2_lt _ _ _), if_neg b, f7]
    rfl
/-- the token of a whole number: the same end, the same worth, good on both sides or on none -/
theorem nx_num {T T' : Nat → Nat} {n p : Nat} (h : ∀ i, i < n → T' i = ev_b8 (T i) ∧ T i < 256) (hd : ¬ lx_digit (lx_at T n p) = 0) : xx_num T' n p = (if (lx_num T n p).1 = 2 then 3 else 1, (lx_num T n p).2.1, (lx_num T n p).2.2) := by
  have hp : p < n := lx_digit_in hd
  have h9 := lx_digit9 hd
  have ep : T' p = lx_at T n p := by
    rcases nx_b8 h p with e | ⟨e1, e2, e3⟩
    · rw [← e]
      exact (if_pos hp).symm
    · omega
  have e1 : lx_at T' n (p + 1) = 120 ↔ lx_at T n (p + 1) = 120 := by
    rcases nx_b8 h (p + 1) with e | ⟨e1, e2, e3⟩
    · rw [e]
    · omega
  unfold xx_num lx_num
  rw [nx_hexv h, nx_decv h _ _ _ _ rfl (by decide) (fun _ => by decide), ep]
  by_cases q : lx_at T n p = 48 ∧ lx_at T n (p + 1) = 120
  · rw [if_pos q, if_pos ⟨q.1, e1.mpr q.2⟩]
    dsimp only
    rw [nx_type h (g' := lx_g16 (p + 2) (lx_hexv T n n (p + 2) 18446744073709551616).1)]
    · rw [nx_and (by decide) (nx_b1_lt _ _ _)]
      split <;> decide
    · rw [nx_and (by decide) (nx_b1_lt _ _ _)]
      unfold xx_b1 lx_g16
      split <;> split <;> split <;> omega
  · rw [if_neg q, if_neg (fun e => q ⟨e.1, e1.mp e.2⟩)]
    dsimp only
    have k1 := nx_decv_gt (T := T) (n := n) (f := n) (k := p) (v := 18446744073709551616) (g := 1) (by omega) hd
    have k2 := nx_decv_g (T := T) (n := n) n p 18446744073709551616 1 (by decide)
    rw [nx_type h (g' := lx_g19 p (lx_decv T n n p 18446744073709551616 1).1 (lx_decv T n n p 18446744073709551616 1).2.2)]
    · rw [nx_and k2 (nx_b1_lt _ _ _)]
      split <;> decide
    · rw [nx_and k2 (nx_b1_lt _ _ _)]
      unfold xx_b1 lx_g19
      split <;> split <;> split <;> omega
