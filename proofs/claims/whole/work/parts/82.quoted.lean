/-! ===== 82: quoted strings on both sides (wip/whole2/82.txt) ===== -/
/-- up to so many digits: their value, where they end -/
def lx_dg (T : Nat → Nat) (n : Nat) : Nat → Nat → Nat → Nat × Nat
  | 0, k, v => (v, k)
  | f + 1, k, v => if lx_digit (lx_at T n k) = 0 then (v, k) else lx_dg T n f (k + 1) (10 * v + (lx_at T n k - 48))
theorem lx_dg_e {T : Nat → Nat} {n f k v : Nat} (h : lx_digit (lx_at T n k) = 0) : lx_dg T n f k v = (v, k) := by
  cases f with
  | zero => rfl
  | succ f => exact if_pos h
theorem lx_dg_s {T : Nat → Nat} {n f k v : Nat} (h : ¬ lx_digit (lx_at T n k) = 0) : lx_dg T n (f + 1) k v = lx_dg T n f (k + 1) (10 * v + (lx_at T n k - 48)) := if_neg h
theorem lx_dg_lt {T : Nat → Nat} {n : Nat} : ∀ f k v : Nat, (lx_dg T n f k v).1 < (v + 1) * 10 ^ f ∧ k ≤ (lx_dg T n f k v).2 ∧ (lx_dg T n f k v).2 ≤ k + f
  | 0, k, v => by
    refine ⟨?_, Nat.le_refl _, Nat.le_refl _⟩
    show v < (v + 1) * 1
    omega
  | f + 1, k, v => by
    by_cases q : lx_digit (lx_at T n k) = 0
    · rw [lx_dg_e q]
      refine ⟨?_, Nat.le_refl _, by show k ≤ k + (f + 1); omega⟩
      show v < (v + 1) * 10 ^ (f + 1)
      have : 1 ≤ 10 ^ (f + 1) := Nat.one_le_pow _ _ (by decide)
      calc v < (v + 1) * 1 := by omega
        _ ≤ (v + 1) * 10 ^ (f + 1) := Nat.mul_le_mul_left _ this
    · rw [lx_dg_s q]
      have h9 := lx_digit9 q
      have h := lx_dg_lt (T := T) (n := n) f (k + 1) (10 * v + (lx_at T n k - 48))
      refine ⟨?_, by omega, by omega⟩
      refine Nat.lt_of_lt_of_le h.1 ?_
      rw [Nat.pow_succ, Nat.mul_comm (10 ^ f) 10, ← Nat.mul_assoc]
      exact Nat.mul_le_mul_right _ (by omega)
/-- what is told behind byte 92: the byte, by how many bytes -/
def lx_es (T : Nat → Nat) (n k : Nat) : Option (Nat × Nat) :=
  if lx_at T n k = 110 then some (10, 1) else if lx_at T n k = 116 then some (9, 1) else if lx_at T n k = 92 ∨ lx_at T n k = 34 ∨ lx_at T n k = 39 then some (lx_at T n k, 1)
  else if lx_digit (lx_at T n k) = 0 then none else if 255 < (lx_dg T n 3 k 0).1 then none else some ((lx_dg T n 3 k 0).1, (lx_dg T n 3 k 0).2 - k)
theorem lx_dg3 {T : Nat → Nat} {n k : Nat} : (lx_dg T n 3 k 0).1 < 1000 ∧ k ≤ (lx_dg T n 3 k 0).2 ∧ (lx_dg T n 3 k 0).2 ≤ k + 3 := by
  have h := lx_dg_lt (T := T) (n := n) 3 k 0
  exact ⟨Nat.lt_of_lt_of_le h.1 (by decide), h.2.1, h.2.2⟩
theorem lx_es_lt {T : Nat → Nat} {n k v m : Nat} (h : lx_es T n k = some (v, m)) : v < 256 ∧ 1 ≤ m ∧ m ≤ 3 := by
  unfold lx_es at h
  by_cases h1 : lx_at T n k = 110
  · rw [if_pos h1] at h; cases h; decide
  rw [if_neg h1] at h
  by_cases h2 : lx_at T n k = 116
  · rw [if_pos h2] at h; cases h; decide
  rw [if_neg h2] at h
  by_cases h3 : lx_at T n k = 92 ∨ lx_at T n k = 34 ∨ lx_at T n k = 39
  · rw [if_pos h3] at h; cases h; omega
  rw [if_neg h3] at h
  by_cases h4 : lx_digit (lx_at T n k) = 0
  · rw [if_pos h4] at h; cases h
  rw [if_neg h4] at h
  by_cases h5 : 255 < (lx_dg T n 3 k 0).1
  · rw [if_pos h5] at h; cases h
  rw [if_neg h5] at h
  cases h
  have h6 := lx_dg3 (T := T) (n := n) (k := k)
  refine ⟨by omega, ?_, by omega⟩
  rw [lx_dg_s h4]
  have := (lx_dg_lt (T := T) (n := n) 2 (k + 1) (10 * 0 + (lx_at T n k - 48))).2.1
  omega
theorem lx_mul10 {v : Nat} (h : v < 1000) : ev_oMul 10 v = 10 * v := by
  unfold ev_oMul
  omega
theorem lx_mul10' {v : Nat} (h : v < 1000) : ev_oMul v 10 = 10 * v := by
  unfold ev_oMul
  omega
/-- the reference's end of an escape -/
theorem dkL_204_110 {nn : Nat} {F : wq_F} {b : List Nat} {v k : Nat} (hv : v < 4294967296) (hb : b.length < 4200) : dk_204_110 nn (bfw F b) v k = if v < 256 then some (k, bfw F (b ++ [ev_b8 v])) else some (4294967295, bfw F b) := by
  unfold dk_204_110
  by_cases q : 2147483648 ≤ v
  · rw [if_pos q, if_neg (by omega)]
  · rw [if_neg q]
    by_cases q2 : v < 256
    · rw [if_neg (fun z => absurd ((wd_slt (by decide) (by omega)).mp z) (by omega)), bfw_len, od_g1 hb, od_upS, od_upS, wq_up_cell (by decide), bfw_len, wm_b8b8, Nat.mod_eq_of_lt (show b.length + 1 < 4294967296 by omega), bfw_s, if_pos q2]
    · rw [if_pos ((wd_slt (by decide) (by omega)).mpr (by omega)), if_neg q2]
theorem dkL_204_69 {nn : Nat} {F : wq_F} {b : List Nat} {n a : Nat} (hF : F 0 2 = n) (hn6 : n ≤ 6000) (hC : ∀ i, i < n → F 1 i < 256) (ha : a < 100000) : ∀ f g k v : Nat, f < g → k + f = a + 3 → v < 1000 → v * 10 ^ f + 10 ^ f ≤ 1000 → dk_204_69 nn g (bfw F b) a v k = dk_204_110 nn (bfw F b) (lx_dg (F 1) n f k v).1 (lx_dg (F 1) n f k v).2
  | f, 0, k, v, h, _, _, _ => absurd h (by omega)
  | 0, g + 1, k, v, h1, h2, h3, h4 => by
    show dk_204_69b nn (dk_204_69 nn g) (bfw F b) a v k = _
    unfold dk_204_69b
    rw [Nat.mod_eq_of_lt (show a + 3 < 4294967296 by omega), if_neg (fun z => absurd ((wd_slt (by omega) (by omega)).mp z) (by omega))]
    rfl
  | f + 1, g + 1, k, v, h1, h2, h3, h4 => by
    show dk_204_69b nn (dk_204_69 nn g) (bfw F b) a v k = _
    unfold dk_204_69b
    have e2 : bfw F b 0 2 = n := by rw [bfw_c (by decide) (by decide)]; exact hF
    have e1 : bfw F b 1 = F 1 := funext fun i => bfw_c (by decide) (by omega)
    rw [Nat.mod_eq_of_lt (show a + 3 < 4294967296 by omega), if_pos ((wd_slt (by omega) (by omega)).mpr (by omega)), dkS_28 (by omega) (by rw [e2]; exact hn6), od_bS]
    show (some (lx_digit (lx_at (bfw F b 1) (bfw F b 0 2) k), bfw F b)).bind _ = _
    rw [od_bS, e1, e2]
    dsimp only
    by_cases q : lx_digit (lx_at (F 1) n k) = 0
    · rw [if_pos q, lx_dg_e q]
    · have h9 := lx_digit9 q
      rw [if_neg q, dkS_28 (by omega) (by rw [e2]; exact hn6), od_bS, e1, e2]
      dsimp only
      rw [od_letS, od_letS, od_letS, lx_mul10 h3, lx_dg_s q]
      have e3 : ((10 * v + lx_at (F 1) n k) % 4294967296 + (4294967296 - 48)) % 4294967296 = 10 * v + (lx_at (F 1) n k - 48) := by omega
      rw [e3, Nat.mod_eq_of_lt (show k + 1 < 4294967296 by omega)]
      have h5 : (10 : Nat) ^ (f + 1) = 10 * 10 ^ f := by rw [Nat.pow_succ, Nat.mul_comm]
      have h6 : 1 ≤ 10 ^ f := Nat.one_le_pow _ _ (by decide)
      have h7 : (10 * v + (lx_at (F 1) n k - 48)) * 10 ^ f + 10 ^ f ≤ v * 10 ^ (f + 1) + 10 ^ (f + 1) := by
        rw [h5]
        have h8 : (10 * v + (lx_at (F 1) n k - 48)) * 10 ^ f + 10 ^ f = (10 * v + (lx_at (F 1) n k - 48) + 1) * 10 ^ f := by rw [Nat.add_mul (10 * v + (lx_at (F 1) n k - 48)) 1, Nat.one_mul]
        have h10 : v * (10 * 10 ^ f) + 10 * 10 ^ f = (10 * v + 10) * 10 ^ f := by rw [Nat.add_mul, Nat.mul_left_comm, Nat.mul_assoc]
        rw [h8, h10]
        exact Nat.mul_le_mul_right _ (by omega)
      have h11 : 10 * v + (lx_at (F 1) n k - 48) < 1000 := by
        have : 10 * v + (lx_at (F 1) n k - 48) ≤ (10 * v + (lx_at (F 1) n k - 48)) * 10 ^ f := Nat.le_mul_of_pos_right _ (by omega)
        omega
      exact dkL_204_69 hF hn6 hC ha f g (k + 1) _ (by omega) (by omega) h11 (by omega)
/-- the reference's escape -/
theorem dkS_204 {nn : Nat} {F : wq_F} {b : List Nat} {n k : Nat} (hF : F 0 2 = n) (hn6 : n ≤ 6000) (hC : ∀ i, i < n → F 1 i < 256) (hk : k ≤ n) (hb : b.length < 4200) (hn : 3 < nn) : dk_204 nn (bfw F b) k = match lx_es (F 1) n k with
    | some (v, m) => some (k + m, bfw F (b ++ [ev_b8 v]))
    | none => some (4294967295, bfw F b) := by
  have e2 : bfw F b 0 2 = n := by rw [bfw_c (by decide) (by decide)]; exact hF
  have e1 : bfw F b 1 = F 1 := funext fun i => bfw_c (by decide) (by omega)
  have h51 : ∀ s0, s0 < 4294967296 → lx_digit (lx_at (F 1) n k) = 0 → dk_204_51 nn (bfw F b) k (lx_at (F 1) n k) s0 = if s0 < 256 then some (k + 1, bfw F (b ++ [ev_b8 s0])) else some (4294967295, bfw F b) := fun s0 hs q => by
    unfold dk_204_51
    show (some (lx_digit (lx_at (F 1) n k), bfw F b)).bind _ = _
    rw [od_bS]
    dsimp only
    rw [if_pos q, Nat.mod_eq_of_lt (show k + 1 < 4294967296 by omega), dkL_204_110 hs hb]
  have nd : ∀ c, lx_at (F 1) n k = c → ¬ (48 ≤ c ∧ c ≤ 57) → lx_digit (lx_at (F 1) n k) = 0 := fun c hc hq => by
    unfold lx_digit
    rw [hc, if_neg hq]
  unfold dk_204 lx_es
  rw [dkS_28 (by omega) (by rw [e2]; exact hn6), od_bS, e1, e2]
  dsimp only
  by_cases h1 : lx_at (F 1) n k = 110
  · rw [if_pos h1, if_pos h1, h51 10 (by decide) (nd _ h1 (by decide)), if_pos (by decide)]
  rw [if_neg h1, if_neg h1]
  by_cases h2 : lx_at (F 1) n k = 116
  · rw [if_pos h2, if_pos h2, h51 9 (by decide) (nd _ h2 (by decide)), if_pos (by decide)]
  rw [if_neg h2, if_neg h2]
  by_cases h3 : lx_at (F 1) n k = 92
  · rw [if_pos h3, if_pos (Or.inl h3), h51 _ (by omega) (nd _ h3 (by decide)), if_pos (by omega)]
  rw [if_neg h3]
  by_cases h4 : lx_at (F 1) n k = 34
  · rw [if_pos h4, if_pos (Or.inr (Or.inl h4)), h51 _ (by omega) (nd _ h4 (by decide)), if_pos (by omega)]
  rw [if_neg h4]
  by_cases h5 : lx_at (F 1) n k = 39
  · rw [if_pos h5, if_pos (Or.inr (Or.inr h5)), h51 _ (by omega) (nd _ h5 (by decide)), if_pos (by omega)]
  rw [if_neg h5, if_neg (by omega)]
  by_cases q : lx_digit (lx_at (F 1) n k) = 0
  · rw [h51 _ (by decide) q, if_neg (by decide), if_pos q]
  · rw [if_neg q]
    unfold dk_204_51
    show (some (lx_digit (lx_at (F 1) n k), bfw F b)).bind _ = _
    rw [od_bS]
    dsimp only
    rw [if_neg q, dkL_204_69 hF hn6 hC (by omega) 3 nn k 0 hn rfl (by decide) (by decide)]
    have h6 := lx_dg3 (T := F 1) (n := n) (k := k)
    rw [dkL_204_110 (by omega) hb]
    by_cases z : 255 < (lx_dg (F 1) n 3 k 0).1
    · rw [if_neg (by omega), if_pos z]
    · rw [if_pos (by omega), if_neg z]
      dsimp only
      rw [show k + ((lx_dg (F 1) n 3 k 0).2 - k) = (lx_dg (F 1) n 3 k 0).2 by omega]
