/-! ===== 65: whole numbers: class and reference read the same ===== -/
theorem nx_cmp {x y : Nat} (hx : x < 9223372036854775808) (hy : y < 9223372036854775808) : ev_oCmpL x y = if y < x then 1 else if x = y then 0 else 4294967295 := by
  have sx : ev_sl x = x + 9223372036854775808 := by unfold ev_sl; omega
  have sy : ev_sl y = y + 9223372036854775808 := by unfold ev_sl; omega
  unfold ev_oCmpL
  rw [sx, sy]
  by_cases h : y < x
  · rw [if_pos h, Nat.blt_eq.mpr (show y + 9223372036854775808 < x + 9223372036854775808 by omega), cond_true]
  · rw [if_neg h]
    have h1 : (y + 9223372036854775808).blt (x + 9223372036854775808) = false := by
      cases hq : (y + 9223372036854775808).blt (x + 9223372036854775808)
      · rfl
      · have := Nat.blt_eq.mp hq
        omega
    rw [h1, cond_false]
    by_cases h2 : x = y
    · subst h2
      rw [if_pos rfl, Nat.beq_refl, cond_true]
    · rw [if_neg h2]
      have h3 : x.beq y = false := by
        cases hq : x.beq y
        · rfl
        · exact absurd (Nat.eq_of_beq_eq_true hq) h2
      rw [h3, cond_false]
theorem nx_i2l {d : Nat} (hd : d < 2147483648) : ev_oI2l d = 18446744073709551616 + d := by
  unfold ev_oI2l
  rw [Nat.blt_eq.mpr hd, cond_true]
theorem nx_div {d : Nat} (hd : d ≤ 9) : ev_oDivL (ev_oSubL (18446744073709551616 + 9223372036854775807 - 18446744073709551616) (ev_oI2l d - 18446744073709551616)) (18446744073709551616 + 10) - 18446744073709551616 = (9223372036854775807 - d) / 10 := by
  rw [nx_i2l (by omega)]
  have e1 : ev_oSubL (18446744073709551616 + 9223372036854775807 - 18446744073709551616) (18446744073709551616 + d - 18446744073709551616) = 18446744073709551616 + (9223372036854775807 - d) := by
    unfold ev_oSubL
    omega
  rw [e1]
  unfold ev_oDivL
  rw [Nat.add_sub_cancel_left, Nat.add_sub_cancel_left, Nat.add_sub_cancel_left, pk_lDiv (by omega) (by decide) (by decide), ev_lNn]
  omega
theorem nx_hex9 {c : Nat} (h1 : 48 ≤ c) (h2 : c ≤ 57) : lx_hex c = c - 48 := by
  unfold lx_hex
  rw [if_pos (by unfold lx_digit; rw [if_pos ⟨h1, h2⟩])]
/-- one digit more: the same worth -/
theorem nx_dec1 {v c : Nat} (hv : ev_isL v = true) (h1 : 48 ≤ c) (h2 : c ≤ 57) : xx_dec1 v c = lx_dec1 v c := by
  have hv2 := ev_isL_s hv
  unfold xx_dec1 lx_dec1
  rw [nx_hex9 h1 h2, nx_i2l (by omega), nx_i2l (by omega)]
  unfold ev_oAddL ev_oMulL ev_oSubL
  rw [Nat.mul_comm (v - 18446744073709551616)]
  omega
/-- as long as it is a whole of 64 bits -/
theorem nx_good {v g c : Nat} (hv : ev_isL v = true) (h1 : 48 ≤ c) (h2 : c ≤ 57) (hg : g < 2) (hs : g = 1 → v - 18446744073709551616 < 9223372036854775808) : xx_good v g c = lx_good v g c ∧ (lx_good v g c = 1 → lx_dec1 v c - 18446744073709551616 < 9223372036854775808) := by
  have hv2 := ev_isL_s hv
  rcases (show g = 0 ∨ g = 1 by omega) with rfl | rfl
  · have e1 : xx_good v 0 c = 0 := by
      unfold xx_good ev_oAnd
      exact Nat.zero_and _
    have e2 : lx_good v 0 c = 0 := by
      unfold lx_good
      rw [if_neg (fun q => q.1 rfl)]
    rw [e1, e2]
    exact ⟨rfl, fun q => absurd q (by decide)⟩
  · have hs := hs rfl
    have eA : ∀ x, x < 2 → ev_oAnd 1 x = x := by
      intro x hx
      rcases (show x = 0 ∨ x = 1 by omega) with rfl | rfl <;> rfl
    have ed := nx_div (d := lx_hex c) (by rw [nx_hex9 h1 h2]; omega)
    have eq : lx_good v 1 c = if v - 18446744073709551616 ≤ (9223372036854775807 - (c - 48)) / 10 then 1 else 0 := by
      unfold lx_good
      rw [Nat.add_sub_cancel_left, nx_cmp hs (by decide)]
      by_cases hq : v - 18446744073709551616 ≤ (9223372036854775807 - (c - 48)) / 10
      · rw [if_pos hq, if_pos]
        refine ⟨by decide, ?_⟩
        by_cases q1 : 922337203685477580 < v - 18446744073709551616
        · omega
        · rw [if_neg q1]
          by_cases q2 : v - 18446744073709551616 = 922337203685477580
          · rw [if_pos q2]; exact Or.inr ⟨rfl, by omega⟩
          · rw [if_neg q2]; exact Or.inl (by decide)
      · rw [if_neg hq, if_neg]
        intro q
        by_cases q1 : 922337203685477580 < v - 18446744073709551616
        · rw [if_pos q1] at q; omega
        · rw [if_neg q1] at q
          by_cases q2 : v - 18446744073709551616 = 922337203685477580
          · rw [if_pos q2] at q; omega
          · omega
    have ex : xx_good v 1 c = if v - 18446744073709551616 ≤ (9223372036854775807 - (c - 48)) / 10 then 1 else 0 := by
      unfold xx_good
      rw [ed, nx_hex9 h1 h2, nx_cmp hs (by omega)]
      by_cases hq : v - 18446744073709551616 ≤ (9223372036854775807 - (c - 48)) / 10
      · rw [if_pos hq, if_neg (show ¬ (9223372036854775807 - (c - 48)) / 10 < v - 18446744073709551616 by omega)]
        by_cases q2 : v - 18446744073709551616 = (9223372036854775807 - (c - 48)) / 10
        · rw [if_pos q2, if_neg (by omega)]; rfl
        · rw [if_neg q2, if_neg (by omega)]; rfl
      · rw [if_neg hq, if_pos (show (9223372036854775807 - (c - 48)) / 10 < v - 18446744073709551616 by omega), if_pos (by omega)]
        rfl
    refine ⟨by rw [ex, eq], fun q => ?_⟩
    rw [eq] at q
    by_cases hq : v - 18446744073709551616 ≤ (9223372036854775807 - (c - 48)) / 10
    · rw [← nx_dec1 hv h1 h2]
      unfold xx_dec1
      rw [nx_hex9 h1 h2, nx_i2l (by omega)]
      unfold ev_oAddL ev_oMulL
      simp only [Nat.add_sub_cancel_left]
      generalize v - 18446744073709551616 = w at hq
      rw [Nat.mod_eq_of_lt (show w * 10 < 18446744073709551616 by omega), Nat.mod_eq_of_lt (show w * 10 + (c - 48) < 18446744073709551616 by omega)]
      omega
    · rw [if_neg hq] at q
      cases q
/-- bytes as the class has them are seen alike -/
theorem nx_b8 {T T' : Nat → Nat} {n : Nat} (h : ∀ i, i < n → T' i = ev_b8 (T i) ∧ T i < 256) (j : Nat) : lx_at T' n j = lx_at T n j ∨ (128 ≤ lx_at T n j ∧ lx_at T n j < 256 ∧ 4294967040 ≤ lx_at T' n j) := by
  unfold lx_at
  by_cases q : j < n
  · rw [if_pos q, if_pos q]
    obtain ⟨h1, h2⟩ := h j q
    rw [h1]
    unfold ev_b8
    cases hq : (T j % 256).blt 128
    · have := wq_bltF hq
      simp only [cond_false]
      omega
    · have := Nat.blt_eq.mp hq
      simp only [cond_true]
      omega
  · rw [if_neg q, if_neg q]
    exact Or.inl rfl
theorem nx_hexE {T T' : Nat → Nat} {n : Nat} (h : ∀ i, i < n → T' i = ev_b8 (T i) ∧ T i < 256) (j : Nat) : lx_hex (lx_at T' n j) = lx_hex (lx_at T n j) := by
  rcases nx_b8 h j with e | ⟨e1, e2, e3⟩
  · rw [e]
  · have a : ∀ z, 128 ≤ z → lx_hex z = 4294967295 := by
      intro z hz
      unfold lx_hex lx_digit
      rw [if_neg (show ¬ (48 ≤ z ∧ z ≤ 57) by omega), if_neg (by decide), if_neg (by omega), if_neg (by omega)]
    rw [a _ e1, a _ (by omega)]
theorem nx_digE {T T' : Nat → Nat} {n : Nat} (h : ∀ i, i < n → T' i = ev_b8 (T i) ∧ T i < 256) (j : Nat) : lx_digit (lx_at T' n j) = lx_digit (lx_at T n j) := by
  rcases nx_b8 h j with e | ⟨e1, e2, e3⟩
  · rw [e]
  · unfold lx_digit
    rw [if_neg (by omega), if_neg (by omega)]
theorem nx_letE {T T' : Nat → Nat} {n : Nat} (h : ∀ i, i < n → T' i = ev_b8 (T i) ∧ T i < 256) (j : Nat) : lx_letter (lx_at T' n j) = lx_letter (lx_at T n j) := by
  rcases nx_b8 h j with e | ⟨e1, e2, e3⟩
  · rw [e]
  · unfold lx_letter
    rw [if_neg (by omega), if_neg (by omega)]
theorem nx_hexv {T T' : Nat → Nat} {n : Nat} (h : ∀ i, i < n → T' i = ev_b8 (T i) ∧ T i < 256) : ∀ f k v, lx_hexv T' n f k v = lx_hexv T n f k v := by
  intro f
  induction f with
  | zero => intro k v; rfl
  | succ f ih =>
    intro k v
    have e := nx_hexE h k
    by_cases q : lx_hex (lx_at T n k) < 2147483648
    · rw [lx_hexv_s q, lx_hexv_s (by rw [e]; exact q), e, ih]
    · rw [lx_hexv_e q, lx_hexv_e (by rw [e]; exact q)]
theorem nx_decv {T T' : Nat → Nat} {n : Nat} (h : ∀ i, i < n → T' i = ev_b8 (T i) ∧ T i < 256) : ∀ f k v g, ev_isL v = true → g < 2 → (g = 1 → v - 18446744073709551616 < 9223372036854775808) → xx_decv T' n f k v g = lx_decv T n f k v g := by
  intro f
  induction f with
  | zero => intro k v g _ _ _; rfl
  | succ f ih =>
    intro k v g hv hg hs
    have e := nx_digE h k
    by_cases q : lx_digit (lx_at T n k) = 0
    · rw [lx_decv_e q, xx_decv_e (by rw [e]; exact q)]
    · have h9 := lx_digit9 q
      have ec : lx_at T' n k = lx_at T n k := by
        rcases nx_b8 h k with e | ⟨e1, e2, e3⟩
        · exact e
        · omega
      rw [lx_decv_s q, xx_decv_s (by rw [e]; exact q), ec]
      obtain ⟨g1, g2⟩ := nx_good hv h9.1 h9.2.1 hg hs
      rw [g1, nx_dec1 hv h9.1 h9.2.1]
      exact ih _ _ _ (lx_dec1_L _ _) (lx_good2 _ _ _) g2
