/-! ===== 64: the class's scanNumber (by wip/whole2/law64.py) ===== -/
theorem wq_upup (F : wq_F) (k i v v' : Nat) : wq_up (wq_up F k i v) k i v' = wq_up F k i v' := by
  funext k' i'
  unfold wq_up
  by_cases h : k' = k ∧ i' = i
  · rw [if_pos h, if_pos h]
  · rw [if_neg h, if_neg h, if_neg h]
theorem xm_byteAtG {F : wq_F} {T : Nat → Nat} {n : Nat} (hT : xm_T F) (h1 : F 1 = T) (h2 : F 57 2 = n) {d j : Nat} (hj : j < 2147483648) (hn : n ≤ 6000) : mq (d + 1) 186 [36893488147419103289, j] xm_sh F (wq_k (some (lx_at T n j)) xm_sh F) := by
  subst h1; subst h2
  exact xm_byteAt hT hj hn
/-- decimal digits as the class reads them -/
def xx_good (v g c : Nat) : Nat := ev_oAnd g (if 0 < ev_oCmpL (v - 18446744073709551616) (ev_oDivL (ev_oSubL (18446744073709551616 + 9223372036854775807 - 18446744073709551616) (ev_oI2l (lx_hex c) - 18446744073709551616)) (18446744073709551616 + 10) - 18446744073709551616) ∧ ev_oCmpL (v - 18446744073709551616) (ev_oDivL (ev_oSubL (18446744073709551616 + 9223372036854775807 - 18446744073709551616) (ev_oI2l (lx_hex c) - 18446744073709551616)) (18446744073709551616 + 10) - 18446744073709551616) < 2147483648 then 0 else 1)
def xx_dec1 (v c : Nat) : Nat := ev_oAddL (ev_oMulL (v - 18446744073709551616) (18446744073709551616 + 10 - 18446744073709551616) - 18446744073709551616) (ev_oI2l (lx_hex c) - 18446744073709551616)
def xx_decv (T : Nat → Nat) (n : Nat) : Nat → Nat → Nat → Nat → Nat × Nat × Nat
  | 0, k, v, g => (k, v, g)
  | f + 1, k, v, g => if lx_digit (lx_at T n k) = 0 then (k, v, g) else xx_decv T n f (k + 1) (xx_dec1 v (lx_at T n k)) (xx_good v g (lx_at T n k))
theorem xx_decv_s {T : Nat → Nat} {n f k v g : Nat} (h : ¬ lx_digit (lx_at T n k) = 0) : xx_decv T n (f + 1) k v g = xx_decv T n f (k + 1) (xx_dec1 v (lx_at T n k)) (xx_good v g (lx_at T n k)) := if_neg h
theorem xx_decv_e {T : Nat → Nat} {n f k v g : Nat} (h : lx_digit (lx_at T n k) = 0) : xx_decv T n (f + 1) k v g = (k, v, g) := if_pos h
theorem xx_dec1_L (v c : Nat) : ev_isL (xx_dec1 v c) = true := wq_Lof (Nat.mod_lt _ (by decide))
theorem xx_good2 {v g c : Nat} (hg : g < 2) : xx_good v g c < 2 := Nat.lt_of_le_of_lt Nat.and_le_left hg
def xx_b1 (a k lim : Nat) : Nat := if 1 ≤ k - a ∧ k - a ≤ lim then 1 else 0
def xx_b2 (T : Nat → Nat) (n k : Nat) : Nat := if lx_letter (lx_at T n k) = 0 ∧ lx_digit (lx_at T n k) = 0 then 1 else 0
def xx_type (T : Nat → Nat) (n k g : Nat) : Nat := if ev_oAnd g (xx_b2 T n k) = 0 then 1 else 3
theorem xx_hexN {T : Nat → Nat} {n k : Nat} (h : ¬ k < n) : ¬ lx_hex (lx_at T n k) < 2147483648 := fun q => h (lx_hex_in q)
theorem xx_digN {T : Nat → Nat} {n k : Nat} (h : ¬ k < n) : lx_digit (lx_at T n k) = 0 := Classical.byContradiction fun q => h (lx_digit_in q)
/-- type, worth and end of a whole number at a place, as the class reads it -/
def xx_num (T : Nat → Nat) (n p : Nat) : Nat × Nat × Nat := if T p = 48 ∧ lx_at T n (p + 1) = 120 then (xx_type T n (lx_hexv T n n (p + 2) 18446744073709551616).1 (ev_oAnd 1 (xx_b1 (p + 2) (lx_hexv T n n (p + 2) 18446744073709551616).1 16)), (lx_hexv T n n (p + 2) 18446744073709551616).2, (lx_hexv T n n (p + 2) 18446744073709551616).1) else (xx_type T n (xx_decv T n n p 18446744073709551616 1).1 (ev_oAnd (xx_decv T n n p 18446744073709551616 1).2.2 (xx_b1 p (xx_decv T n n p 18446744073709551616 1).1 19)), (xx_decv T n n p 18446744073709551616 1).2.1, (xx_decv T n n p 18446744073709551616 1).1)
theorem xx_digit_at {T : Nat → Nat} {n k : Nat} (h : k < n) : lx_at T n k = T k := if_pos h
theorem xm_scanNumber {G : wq_F} {T : Nat → Nat} {n p : Nat} (hTG : xm_T G) (hG1 : G 1 = T) (hG2 : G 57 2 = n) (hG5 : G 57 5 = p) (hn : n ≤ 6000) (hp : p < n) (hC : ∀ i, i < n → T i < 4294967296) {d : Nat} : mq (d + 3) 191 [36893488147419103289] xm_sh G (wq_k none xm_sh (wq_up (wq_up (wq_up G 57 8 (xx_num T n p).2.1) 57 3 (xx_num T n p).2.2) 57 4 (xx_num T n p).1)) := by
  have xx_at2 : ∀ j, lx_at T n j < 4294967296 := by
    intro j
    unfold lx_at
    by_cases h : j < n
    · rw [if_pos h]; exact hC j h
    · rw [if_neg h]; decide
  have J270 : ∀ (G : wq_F), xm_T G → G 1 = T → G 57 2 = n → ∀ (h a k g x z : Nat), h < 2 → a ≤ n + 2 → k ≤ n → g < 2 → z < 4294967296 → ∀ {K : Option Nat → List (Nat × Nat) → wq_F → Nat → Nat → Prop}, K none xm_sh (wq_up G 57 4 z) 0 0 → wq (wq_cf (d + 2)) (ev_un al_mX10_scanNumber.2.2.2.2) none 270 [36893488147419103289, h, a, k, g, x] [z, 36893488147419103289] xm_sh G 0 0 K := by
    intro G hTG hG1 hG2 h a k g x z hh ha hk hg hz K hK
    refine xm_put (q := 57) rfl rfl (by decide) (by decide) (wq_I hz) ?_
    have hT1 := hTG.uf (k := 57) (f := 4) (c := 0) (v := z) rfl (by decide) rfl hz
    exact wq_ret rfl hK
  have J256 : ∀ (G : wq_F), xm_T G → G 1 = T → G 57 2 = n → ∀ (h a k g x b : Nat), h < 2 → a ≤ n + 2 → k ≤ n → g < 2 → b < 2 → ∀ {K : Option Nat → List (Nat × Nat) → wq_F → Nat → Nat → Prop}, K none xm_sh (wq_up G 57 4 (if ev_oAnd g b = 0 then 1 else 3)) 0 0 → wq (wq_cf (d + 2)) (ev_un al_mX10_scanNumber.2.2.2.2) none 256 [36893488147419103289, h, a, k, g, x] [b, g] xm_sh G 0 0 K := by
    intro G hTG hG1 hG2 h a k g x b hh ha hk hg hb K hK
    refine wq_iand rfl (wm_zlt hg) (wm_zlt hb) ?_
    refine wq_istore rfl (wq_I_iand (wm_zlt hg) (wm_zlt hb)) (Nat.le_of_ble_eq_true rfl) (Or.inr ⟨_, rfl, (wq_notL (show k < 4294967296 by omega))⟩) (L' := [36893488147419103289, h, a, k, ev_oAnd g b, x]) rfl ?_
    refine wq_aload_n rfl rfl rfl ?_
    refine wq_iload rfl rfl (wq_I_iand (wm_zlt hg) (wm_zlt hb)) ?_
    refine wq_if_eq rfl rfl (wq_I_iand (wm_zlt hg) (wm_zlt hb)) (fun h1 => ?_) (fun h1 => ?_)
    · skip
      refine wq_iconst rfl rfl ?_
      refine J270 G hTG hG1 hG2 h a k _ x 1 hh ha hk (Nat.lt_of_le_of_lt Nat.and_le_left hg) (by decide) ?_
      rw [show (if ev_oAnd g b = 0 then 1 else 3) = 1 from if_pos (by omega)] at hK
      exact hK
    · skip
      refine wq_iconst rfl rfl ?_
      refine wq_goto rfl rfl ?_
      refine J270 G hTG hG1 hG2 h a k _ x 3 hh ha hk (Nat.lt_of_le_of_lt Nat.and_le_left hg) (by decide) ?_
      rw [show (if ev_oAnd g b = 0 then 1 else 3) = 3 from if_neg (by omega)] at hK
      exact hK
  have J224 : ∀ (G : wq_F), xm_T G → G 1 = T → G 57 2 = n → ∀ (h a k g x b : Nat), h < 2 → a ≤ n + 2 → k ≤ n → g < 2 → b < 2 → ∀ {K : Option Nat → List (Nat × Nat) → wq_F → Nat → Nat → Prop}, K none xm_sh (wq_up G 57 4 (xx_type T n k (ev_oAnd g b))) 0 0 → wq (wq_cf (d + 2)) (ev_un al_mX10_scanNumber.2.2.2.2) none 224 [36893488147419103289, h, a, k, g, x] [b, g] xm_sh G 0 0 K := by
    intro G hTG hG1 hG2 h a k g x b hh ha hk hg hb K hK
    refine wq_iand rfl (wm_zlt hg) (wm_zlt hb) ?_
    refine wq_istore rfl (wq_I_iand (wm_zlt hg) (wm_zlt hb)) (Nat.le_of_ble_eq_true rfl) (Or.inr ⟨_, rfl, (wq_notL (show k < 4294967296 by omega))⟩) (L' := [36893488147419103289, h, a, k, ev_oAnd g b, x]) rfl ?_
    refine wq_iload rfl rfl (wq_I_iand (wm_zlt hg) (wm_zlt hb)) ?_
    refine wq_aload_n rfl rfl rfl ?_
    refine wq_iload_n rfl rfl (show k < 4294967296 by omega) ?_
    refine xm_virtI (q := 57) (as := [36893488147419103289, k]) rfl rfl rfl (by decide) (by decide) (Nat.le_of_ble_eq_true rfl) rfl (Nat.le_of_ble_eq_true rfl) rfl (xm_byteAtG hTG hG1 hG2 (show k < 2147483648 by omega) hn) ?_
    refine xm_statI (as := [lx_at T n k]) rfl (by decide) (Nat.le_of_ble_eq_true rfl) rfl (Nat.le_of_ble_eq_true rfl) rfl (xm_isLetter (xx_at2 k)) ?_
    refine wq_if_ne rfl rfl (lx_letter_lt _) (fun h1 => ?_) (fun h1 => ?_)
    · skip
      refine wq_iconst rfl rfl ?_
      refine J256 G hTG hG1 hG2 h a k _ x 0 hh ha hk (Nat.lt_of_le_of_lt Nat.and_le_left hg) (by decide) ?_
      unfold xx_type at hK
      rw [show xx_b2 T n k = 0 from if_neg (by omega)] at hK
      exact hK
    · skip
      refine wq_aload_n rfl rfl rfl ?_
      refine wq_iload_n rfl rfl (show k < 4294967296 by omega) ?_
      refine xm_virtI (q := 57) (as := [36893488147419103289, k]) rfl rfl rfl (by decide) (by decide) (Nat.le_of_ble_eq_true rfl) rfl (Nat.le_of_ble_eq_true rfl) rfl (xm_byteAtG hTG hG1 hG2 (show k < 2147483648 by omega) hn) ?_
      refine xm_statI (as := [lx_at T n k]) rfl (by decide) (Nat.le_of_ble_eq_true rfl) rfl (Nat.le_of_ble_eq_true rfl) rfl (xm_isDigit (xx_at2 k)) ?_
      refine wq_if_ne rfl rfl (lx_digit_lt _) (fun h2 => ?_) (fun h2 => ?_)
      · skip
        refine wq_iconst rfl rfl ?_
        refine J256 G hTG hG1 hG2 h a k _ x 0 hh ha hk (Nat.lt_of_le_of_lt Nat.and_le_left hg) (by decide) ?_
        unfold xx_type at hK
        rw [show xx_b2 T n k = 0 from if_neg (by omega)] at hK
        exact hK
      · skip
        refine wq_iconst rfl rfl ?_
        refine wq_goto rfl rfl ?_
        refine J256 G hTG hG1 hG2 h a k _ x 1 hh ha hk (Nat.lt_of_le_of_lt Nat.and_le_left hg) (by decide) ?_
        unfold xx_type at hK
        rw [show xx_b2 T n k = 1 from if_pos ⟨by omega, by omega⟩] at hK
        exact hK
  have J185_1 : ∀ (G : wq_F), xm_T G → G 1 = T → G 57 2 = n → ∀ (a k g x : Nat), a ≤ n + 2 → a ≤ k → k ≤ n → g < 2 → ∀ {K : Option Nat → List (Nat × Nat) → wq_F → Nat → Nat → Prop}, K none xm_sh (wq_up (wq_up G 57 3 k) 57 4 (xx_type T n k (ev_oAnd g (xx_b1 a k 16)))) 0 0 → wq (wq_cf (d + 2)) (ev_un al_mX10_scanNumber.2.2.2.2) none 185 [36893488147419103289, 1, a, k, g, x] [] xm_sh G 0 0 K := by
    intro G hTG hG1 hG2 a k g x ha hak hk hg K hK
    refine wq_aload_n rfl rfl rfl ?_
    refine wq_iload_n rfl rfl (show k < 4294967296 by omega) ?_
    refine xm_put (q := 57) rfl rfl (by decide) (by decide) (wq_I (show k < 4294967296 by omega)) ?_
    have hT1 := hTG.uf (k := 57) (f := 3) (c := 0) (v := k) rfl (by decide) rfl (show k < 4294967296 by omega)
    refine wq_iload_n rfl rfl (show k < 4294967296 by omega) ?_
    refine wq_iload_n rfl rfl (show a < 4294967296 by omega) ?_
    refine wq_isubZ rfl (show k < 4294967296 by omega) (show a < 4294967296 by omega) (z := k - a) (by omega) ?_
    refine wq_istore rfl (by omega) (Nat.le_of_ble_eq_true rfl) (Or.inr ⟨_, rfl, (wq_notL (wm_zlt hg))⟩) (L' := [36893488147419103289, 1, a, k, g, k - a]) rfl ?_
    refine wq_iload rfl rfl (wm_zlt hg) ?_
    refine wq_iload rfl rfl (by omega) ?_
    refine wq_iconst rfl rfl ?_
    refine wq_ic_lt rfl rfl (by omega) (by decide) (fun h2 => ?_) (fun h2 => ?_)
    · skip
      unfold ev_s at h2
      refine wq_iconst rfl rfl ?_
      refine J224 _ hT1 ((funext fun i => wq_up_cell (by decide)).trans hG1) ((wq_up_at (by decide)).trans hG2) 1 a k g _ 0 (by decide) ha hk hg (by decide) ?_
      rw [show xx_b1 a k 16 = 0 from if_neg (by omega)] at hK
      exact hK
    · skip
      unfold ev_s at h2
      refine wq_iload rfl rfl (by omega) ?_
      refine wq_iload_n rfl rfl (by decide) ?_
      refine wq_if_eq rfl rfl (by decide) (fun h3 => ?_) (fun h3 => ?_)
      · skip
        exact absurd h3 (by decide)
      · skip
        refine wq_bipush rfl rfl ?_
        refine wq_goto rfl rfl ?_
        refine wq_ic_gt rfl rfl (by omega) (by decide) (fun h4 => ?_) (fun h4 => ?_)
        · skip
          unfold ev_s at h4
          refine wq_iconst rfl rfl ?_
          refine J224 _ hT1 ((funext fun i => wq_up_cell (by decide)).trans hG1) ((wq_up_at (by decide)).trans hG2) 1 a k g _ 0 (by decide) ha hk hg (by decide) ?_
          rw [show xx_b1 a k 16 = 0 from if_neg (by omega)] at hK
          exact hK
        · skip
          unfold ev_s at h4
          refine wq_iconst rfl rfl ?_
          refine wq_goto rfl rfl ?_
          refine J224 _ hT1 ((funext fun i => wq_up_cell (by decide)).trans hG1) ((wq_up_at (by decide)).trans hG2) 1 a k g _ 1 (by decide) ha hk hg (by decide) ?_
          rw [show xx_b1 a k 16 = 1 from if_pos ⟨by omega, by omega⟩] at hK
          exact hK
  have J185_0 : ∀ (G : wq_F), xm_T G → G 1 = T → G 57 2 = n → ∀ (a k g x : Nat), a ≤ n + 2 → a ≤ k → k ≤ n → g < 2 → ∀ {K : Option Nat → List (Nat × Nat) → wq_F → Nat → Nat → Prop}, K none xm_sh (wq_up (wq_up G 57 3 k) 57 4 (xx_type T n k (ev_oAnd g (xx_b1 a k 19)))) 0 0 → wq (wq_cf (d + 2)) (ev_un al_mX10_scanNumber.2.2.2.2) none 185 [36893488147419103289, 0, a, k, g, x] [] xm_sh G 0 0 K := by
    intro G hTG hG1 hG2 a k g x ha hak hk hg K hK
    refine wq_aload_n rfl rfl rfl ?_
    refine wq_iload_n rfl rfl (show k < 4294967296 by omega) ?_
    refine xm_put (q := 57) rfl rfl (by decide) (by decide) (wq_I (show k < 4294967296 by omega)) ?_
    have hT1 := hTG.uf (k := 57) (f := 3) (c := 0) (v := k) rfl (by decide) rfl (show k < 4294967296 by omega)
    refine wq_iload_n rfl rfl (show k < 4294967296 by omega) ?_
    refine wq_iload_n rfl rfl (show a < 4294967296 by omega) ?_
    refine wq_isubZ rfl (show k < 4294967296 by omega) (show a < 4294967296 by omega) (z := k - a) (by omega) ?_
    refine wq_istore rfl (by omega) (Nat.le_of_ble_eq_true rfl) (Or.inr ⟨_, rfl, (wq_notL (wm_zlt hg))⟩) (L' := [36893488147419103289, 0, a, k, g, k - a]) rfl ?_
    refine wq_iload rfl rfl (wm_zlt hg) ?_
    refine wq_iload rfl rfl (by omega) ?_
    refine wq_iconst rfl rfl ?_
    refine wq_ic_lt rfl rfl (by omega) (by decide) (fun h2 => ?_) (fun h2 => ?_)
    · skip
      unfold ev_s at h2
      refine wq_iconst rfl rfl ?_
      refine J224 _ hT1 ((funext fun i => wq_up_cell (by decide)).trans hG1) ((wq_up_at (by decide)).trans hG2) 0 a k g _ 0 (by decide) ha hk hg (by decide) ?_
      rw [show xx_b1 a k 19 = 0 from if_neg (by omega)] at hK
      exact hK
    · skip
      unfold ev_s at h2
      refine wq_iload rfl rfl (by omega) ?_
      refine wq_iload_n rfl rfl (by decide) ?_
      refine wq_if_eq rfl rfl (by decide) (fun h3 => ?_) (fun h3 => ?_)
      · skip
        refine wq_bipush rfl rfl ?_
        refine wq_ic_gt rfl rfl (by omega) (by decide) (fun h4 => ?_) (fun h4 => ?_)
        · skip
          unfold ev_s at h4
          refine wq_iconst rfl rfl ?_
          refine J224 _ hT1 ((funext fun i => wq_up_cell (by decide)).trans hG1) ((wq_up_at (by decide)).trans hG2) 0 a k g _ 0 (by decide) ha hk hg (by decide) ?_
          rw [show xx_b1 a k 19 = 0 from if_neg (by omega)] at hK
          exact hK
        · skip
          unfold ev_s at h4
          refine wq_iconst rfl rfl ?_
          refine wq_goto rfl rfl ?_
          refine J224 _ hT1 ((funext fun i => wq_up_cell (by decide)).trans hG1) ((wq_up_at (by decide)).trans hG2) 0 a k g _ 1 (by decide) ha hk hg (by decide) ?_
          rw [show xx_b1 a k 19 = 1 from if_pos ⟨by omega, by omega⟩] at hK
          exact hK
      · skip
        exact absurd rfl h3
  have HX : ∀ (G : wq_F), xm_T G → G 1 = T → G 57 2 = n → ∀ (a : Nat), a ≤ n + 2 → ∀ (f k v x : Nat), n ≤ f + k → a ≤ k → k ≤ n → ev_isL v = true → ∀ {K : Option Nat → List (Nat × Nat) → wq_F → Nat → Nat → Prop}, K none xm_sh (wq_up (wq_up (wq_up G 57 8 (lx_hexv T n f k v).2) 57 3 (lx_hexv T n f k v).1) 57 4 (xx_type T n (lx_hexv T n f k v).1 (ev_oAnd 1 (xx_b1 a (lx_hexv T n f k v).1 16)))) 0 0 → wq (wq_cf (d + 2)) (ev_un al_mX10_scanNumber.2.2.2.2) none 63 [36893488147419103289, 1, a, k, 1, x] [] xm_sh (wq_up G 57 8 v) 0 0 K := by
    intro G hTG hG1 hG2 a ha f
    induction f with
    | zero =>
      intro k v x h1 hak hk hv K hK
      have hTv := hTG.uf (k := 57) (f := 8) (c := 10) (v := v) rfl (by decide) rfl hv
      refine wq_iload_n rfl rfl (show k < 4294967296 by omega) ?_
      refine wq_aload_n rfl rfl rfl ?_
      refine xm_getR (v := n) (q := 57) rfl rfl (by decide) (by decide) ((wq_up_at (by decide)).trans hG2) ?_
      refine wq_ic_ge rfl rfl (show k < 4294967296 by omega) (wm_cast ((wq_up_at (by decide)).trans hG2) (hTv.i (k := 57) 2 rfl (by decide) rfl)) (fun h1 => ?_) (fun h1 => ?_)
      · skip
        unfold ev_s at h1
        exact J185_1 _ hTv ((funext fun i => wq_up_cell (by decide)).trans hG1) ((wq_up_at (by decide)).trans hG2) a k 1 _ ha hak hk (by decide) hK
      · skip
        unfold ev_s at h1
        exact absurd h1 (by omega)
    | succ f ih =>
      intro k v x h1 hak hk hv K hK
      have hTv := hTG.uf (k := 57) (f := 8) (c := 10) (v := v) rfl (by decide) rfl hv
      refine wq_iload_n rfl rfl (show k < 4294967296 by omega) ?_
      refine wq_aload_n rfl rfl rfl ?_
      refine xm_getR (v := n) (q := 57) rfl rfl (by decide) (by decide) ((wq_up_at (by decide)).trans hG2) ?_
      refine wq_ic_ge rfl rfl (show k < 4294967296 by omega) (wm_cast ((wq_up_at (by decide)).trans hG2) (hTv.i (k := 57) 2 rfl (by decide) rfl)) (fun h1 => ?_) (fun h1 => ?_)
      · skip
        unfold ev_s at h1
        have hex0 : ¬ lx_hex (lx_at T n k) < 2147483648 := by
          by_cases hkn : k < n
          · rw [xx_digit_at hkn]; omega
          · exact xx_hexN hkn
        rw [lx_hexv_e hex0] at hK
        exact J185_1 _ hTv ((funext fun i => wq_up_cell (by decide)).trans hG1) ((wq_up_at (by decide)).trans hG2) a k 1 _ ha hak hk (by decide) hK
      · skip
        unfold ev_s at h1
        refine wq_iload_n rfl rfl (by decide) ?_
        refine wq_if_eq rfl rfl (by decide) (fun h2 => ?_) (fun h2 => ?_)
        · skip
          exact absurd h2 (by decide)
        · skip
          refine wq_aload_n rfl rfl rfl ?_
          refine xm_getR (v := 36893488147419103233) (q := 57) rfl rfl (by decide) (by decide) (hTv.r (k := 57) 0 0 rfl (by decide) rfl) ?_
          refine wq_iload_n rfl rfl (show k < 4294967296 by omega) ?_
          refine wq_baload (q := 1) (n := 6000) rfl rfl (by decide) (by omega) (by decide) ?_
          refine wq_top ((wq_up_cell (by decide)).trans (congrFun hG1 k)) ?_
          refine xm_statI (as := [T k]) rfl (by decide) (Nat.le_of_ble_eq_true rfl) rfl (Nat.le_of_ble_eq_true rfl) rfl (xm_hexDigit (wm_cast ((wq_up_cell (by decide)).trans (congrFun hG1 k)) (hTv.ab (k := 1) rfl (by omega)))) ?_
          refine wq_if_lt rfl rfl (lx_hex_lt (wm_cast ((wq_up_cell (by decide)).trans (congrFun hG1 k)) (hTv.ab (k := 1) rfl (by omega)))) (fun h3 => ?_) (fun h3 => ?_)
          · skip
            have hex0 : ¬ lx_hex (lx_at T n k) < 2147483648 := by
              by_cases hkn : k < n
              · rw [xx_digit_at hkn]; omega
              · exact xx_hexN hkn
            rw [lx_hexv_e hex0] at hK
            exact J185_1 _ hTv ((funext fun i => wq_up_cell (by decide)).trans hG1) ((wq_up_at (by decide)).trans hG2) a k 1 _ ha hak hk (by decide) hK
          · skip
            refine wq_goto rfl rfl ?_
            refine wq_aload_n rfl rfl rfl ?_
            refine xm_getR (v := 36893488147419103233) (q := 57) rfl rfl (by decide) (by decide) (hTv.r (k := 57) 0 0 rfl (by decide) rfl) ?_
            refine wq_iload_n rfl rfl (show k < 4294967296 by omega) ?_
            refine wq_baload (q := 1) (n := 6000) rfl rfl (by decide) (by omega) (by decide) ?_
            refine wq_top ((wq_up_cell (by decide)).trans (congrFun hG1 k)) ?_
            refine xm_statI (as := [T k]) rfl (by decide) (Nat.le_of_ble_eq_true rfl) rfl (Nat.le_of_ble_eq_true rfl) rfl (xm_hexDigit (wm_cast ((wq_up_cell (by decide)).trans (congrFun hG1 k)) (hTv.ab (k := 1) rfl (by omega)))) ?_
            refine wq_istore rfl (lx_hex_lt (wm_cast ((wq_up_cell (by decide)).trans (congrFun hG1 k)) (hTv.ab (k := 1) rfl (by omega)))) (Nat.le_of_ble_eq_true rfl) (Or.inr ⟨_, rfl, (wq_notL (by decide))⟩) (L' := [36893488147419103289, 1, a, k, 1, lx_hex (T k)]) rfl ?_
            refine wq_iload_n rfl rfl (by decide) ?_
            refine wq_if_eq rfl rfl (by decide) (fun h4 => ?_) (fun h4 => ?_)
            · skip
              exact absurd h4 (by decide)
            · skip
              refine wq_aload_n rfl rfl rfl ?_
              refine wq_aload_n rfl rfl rfl ?_
              refine xm_getR (v := v) (q := 57) rfl rfl (by decide) (by decide) (wq_up_same _ _ _ _) ?_
              refine wq_iconst rfl rfl ?_
              refine wq_lshl rfl (wm_castL (wq_up_same _ _ _ _) (hTv.l (k := 57) 8 rfl (by decide) rfl)) (by decide) ?_
              refine wq_iload rfl rfl (lx_hex_lt (wm_cast ((wq_up_cell (by decide)).trans (congrFun hG1 k)) (hTv.ab (k := 1) rfl (by omega)))) ?_
              refine wq_i2l rfl (lx_hex_lt (wm_cast ((wq_up_cell (by decide)).trans (congrFun hG1 k)) (hTv.ab (k := 1) rfl (by omega)))) ?_
              refine wq_lor rfl (wq_L_lshl (wm_castL (wq_up_same _ _ _ _) (hTv.l (k := 57) 8 rfl (by decide) rfl)) (by decide)) (wq_i2l_L (lx_hex_lt (wm_cast ((wq_up_cell (by decide)).trans (congrFun hG1 k)) (hTv.ab (k := 1) rfl (by omega))))) ?_
              refine xm_put (q := 57) rfl rfl (by decide) (by decide) (wq_L_lor (wq_L_lshl (wm_castL (wq_up_same _ _ _ _) (hTv.l (k := 57) 8 rfl (by decide) rfl)) (by decide)) (wq_i2l_L (lx_hex_lt (wm_cast ((wq_up_cell (by decide)).trans (congrFun hG1 k)) (hTv.ab (k := 1) rfl (by omega)))))) ?_
              have hT5 := hTv.uf (k := 57) (f := 8) (c := 10) (v := ev_oOrL (ev_oShlL v 4) (ev_oI2l (lx_hex (T k)))) rfl (by decide) rfl (wq_L_lor (wq_L_lshl (wm_castL (wq_up_same _ _ _ _) (hTv.l (k := 57) 8 rfl (by decide) rfl)) (by decide)) (wq_i2l_L (lx_hex_lt (wm_cast ((wq_up_cell (by decide)).trans (congrFun hG1 k)) (hTv.ab (k := 1) rfl (by omega))))))
              refine wq_goto rfl rfl ?_
              refine wq_iincZ rfl rfl (show k < 4294967296 by omega) (Or.inr ⟨_, rfl, (wq_notL (show a < 4294967296 by omega))⟩) rfl (z := k + 1) (by omega) (L' := [36893488147419103289, 1, a, k + 1, 1, lx_hex (T k)]) rfl ?_
              refine wq_goto rfl rfl ?_
              have hat : lx_at T n k = T k := xx_digit_at (by omega)
              rw [lx_hexv_s (by rw [hat]; omega), hat] at hK
              rw [wq_upup]
              exact ih (k + 1) _ _ (by omega) (by omega) (by omega) (wq_Lof (BitVec.isLt _)) hK
  have DX : ∀ (G : wq_F), xm_T G → G 1 = T → G 57 2 = n → ∀ (a : Nat), a ≤ n + 2 → ∀ (f k v g x : Nat), n ≤ f + k → a ≤ k → k ≤ n → ev_isL v = true → g < 2 → ∀ {K : Option Nat → List (Nat × Nat) → wq_F → Nat → Nat → Prop}, K none xm_sh (wq_up (wq_up (wq_up G 57 8 (xx_decv T n f k v g).2.1) 57 3 (xx_decv T n f k v g).1) 57 4 (xx_type T n (xx_decv T n f k v g).1 (ev_oAnd (xx_decv T n f k v g).2.2 (xx_b1 a (xx_decv T n f k v g).1 19)))) 0 0 → wq (wq_cf (d + 2)) (ev_un al_mX10_scanNumber.2.2.2.2) none 63 [36893488147419103289, 0, a, k, g, x] [] xm_sh (wq_up G 57 8 v) 0 0 K := by
    intro G hTG hG1 hG2 a ha f
    induction f with
    | zero =>
      intro k v g x h1 hak hk hv hg K hK
      have hTv := hTG.uf (k := 57) (f := 8) (c := 10) (v := v) rfl (by decide) rfl hv
      refine wq_iload_n rfl rfl (show k < 4294967296 by omega) ?_
      refine wq_aload_n rfl rfl rfl ?_
      refine xm_getR (v := n) (q := 57) rfl rfl (by decide) (by decide) ((wq_up_at (by decide)).trans hG2) ?_
      refine wq_ic_ge rfl rfl (show k < 4294967296 by omega) (wm_cast ((wq_up_at (by decide)).trans hG2) (hTv.i (k := 57) 2 rfl (by decide) rfl)) (fun h1 => ?_) (fun h1 => ?_)
      · skip
        unfold ev_s at h1
        exact J185_0 _ hTv ((funext fun i => wq_up_cell (by decide)).trans hG1) ((wq_up_at (by decide)).trans hG2) a k g _ ha hak hk hg hK
      · skip
        unfold ev_s at h1
        exact absurd h1 (by omega)
    | succ f ih =>
      intro k v g x h1 hak hk hv hg K hK
      have hTv := hTG.uf (k := 57) (f := 8) (c := 10) (v := v) rfl (by decide) rfl hv
      have J160 : k < n → ¬ lx_digit (T k) = 0 → ∀ (b : Nat), b < 2 → (if 0 < ev_oCmpL (v - 18446744073709551616) (ev_oDivL (ev_oSubL (18446744073709551616 + 9223372036854775807 - 18446744073709551616) (ev_oI2l (lx_hex (T k)) - 18446744073709551616)) (18446744073709551616 + 10) - 18446744073709551616) ∧ ev_oCmpL (v - 18446744073709551616) (ev_oDivL (ev_oSubL (18446744073709551616 + 9223372036854775807 - 18446744073709551616) (ev_oI2l (lx_hex (T k)) - 18446744073709551616)) (18446744073709551616 + 10) - 18446744073709551616) < 2147483648 then 0 else 1) = b → wq (wq_cf (d + 2)) (ev_un al_mX10_scanNumber.2.2.2.2) none 160 [36893488147419103289, 0, a, k, g, lx_hex (T k)] [b, g] xm_sh (wq_up G 57 8 v) 0 0 K := by
        intro hkn hdg b hb hbe
        have hat : lx_at T n k = T k := xx_digit_at hkn
        rw [xx_decv_s (by rw [hat]; exact hdg), hat] at hK
        unfold xx_good at hK
        rw [hbe] at hK
        refine wq_iand rfl (wm_zlt hg) (wm_zlt hb) ?_
        refine wq_istore rfl (wq_I_iand (wm_zlt hg) (wm_zlt hb)) (Nat.le_of_ble_eq_true rfl) (Or.inr ⟨_, rfl, (wq_notL (show k < 4294967296 by omega))⟩) (L' := [36893488147419103289, 0, a, k, ev_oAnd g b, lx_hex (T k)]) rfl ?_
        refine wq_aload_n rfl rfl rfl ?_
        refine wq_aload_n rfl rfl rfl ?_
        refine xm_getR (v := v) (q := 57) rfl rfl (by decide) (by decide) (wq_up_same _ _ _ _) ?_
        refine wq_ldc2 rfl (by decide) ?_
        refine wq_lmul rfl (wm_castL (wq_up_same _ _ _ _) (hTv.l (k := 57) 8 rfl (by decide) rfl)) rfl ?_
        refine wq_iload rfl rfl (lx_hex_lt (hC k hkn)) ?_
        refine wq_i2l rfl (lx_hex_lt (hC k hkn)) ?_
        refine wq_ladd rfl (wq_L_lmul (wm_castL (wq_up_same _ _ _ _) (hTv.l (k := 57) 8 rfl (by decide) rfl)) rfl) (wq_i2l_L (lx_hex_lt (hC k hkn))) ?_
        refine xm_put (q := 57) rfl rfl (by decide) (by decide) (wq_L_ladd (wq_L_lmul (wm_castL (wq_up_same _ _ _ _) (hTv.l (k := 57) 8 rfl (by decide) rfl)) rfl) (wq_i2l_L (lx_hex_lt (hC k hkn)))) ?_
        have hT1 := hTv.uf (k := 57) (f := 8) (c := 10) (v := ev_oAddL ((ev_oMulL (v - 18446744073709551616) (18446744073709551626 - 18446744073709551616)) - 18446744073709551616) ((ev_oI2l (lx_hex (T k))) - 18446744073709551616)) rfl (by decide) rfl (wq_L_ladd (wq_L_lmul (wm_castL (wq_up_same _ _ _ _) (hTv.l (k := 57) 8 rfl (by decide) rfl)) rfl) (wq_i2l_L (lx_hex_lt (hC k hkn))))
        refine wq_iincZ rfl rfl (show k < 4294967296 by omega) (Or.inr ⟨_, rfl, (wq_notL (show a < 4294967296 by omega))⟩) rfl (z := k + 1) (by omega) (L' := [36893488147419103289, 0, a, k + 1, ev_oAnd g b, lx_hex (T k)]) rfl ?_
        refine wq_goto rfl rfl ?_
        rw [wq_upup]
        exact ih (k + 1) _ _ _ (by omega) (by omega) (by omega) (xx_dec1_L _ _) (Nat.lt_of_le_of_lt Nat.and_le_left hg) hK
      refine wq_iload_n rfl rfl (show k < 4294967296 by omega) ?_
      refine wq_aload_n rfl rfl rfl ?_
      refine xm_getR (v := n) (q := 57) rfl rfl (by decide) (by decide) ((wq_up_at (by decide)).trans hG2) ?_
      refine wq_ic_ge rfl rfl (show k < 4294967296 by omega) (wm_cast ((wq_up_at (by decide)).trans hG2) (hTv.i (k := 57) 2 rfl (by decide) rfl)) (fun h1 => ?_) (fun h1 => ?_)
      · skip
        unfold ev_s at h1
        have dig0 : lx_digit (lx_at T n k) = 0 := by
          by_cases hkn : k < n
          · rw [xx_digit_at hkn]; omega
          · exact xx_digN hkn
        rw [xx_decv_e dig0] at hK
        exact J185_0 _ hTv ((funext fun i => wq_up_cell (by decide)).trans hG1) ((wq_up_at (by decide)).trans hG2) a k g _ ha hak hk hg hK
      · skip
        unfold ev_s at h1
        refine wq_iload_n rfl rfl (by decide) ?_
        refine wq_if_eq rfl rfl (by decide) (fun h2 => ?_) (fun h2 => ?_)
        · skip
          refine wq_aload_n rfl rfl rfl ?_
          refine xm_getR (v := 36893488147419103233) (q := 57) rfl rfl (by decide) (by decide) (hTv.r (k := 57) 0 0 rfl (by decide) rfl) ?_
          refine wq_iload_n rfl rfl (show k < 4294967296 by omega) ?_
          refine wq_baload (q := 1) (n := 6000) rfl rfl (by decide) (by omega) (by decide) ?_
          refine wq_top ((wq_up_cell (by decide)).trans (congrFun hG1 k)) ?_
          refine xm_statI (as := [T k]) rfl (by decide) (Nat.le_of_ble_eq_true rfl) rfl (Nat.le_of_ble_eq_true rfl) rfl (xm_isDigit (wm_cast ((wq_up_cell (by decide)).trans (congrFun hG1 k)) (hTv.ab (k := 1) rfl (by omega)))) ?_
          refine wq_if_eq rfl rfl (lx_digit_lt _) (fun h3 => ?_) (fun h3 => ?_)
          · skip
            have dig0 : lx_digit (lx_at T n k) = 0 := by
              by_cases hkn : k < n
              · rw [xx_digit_at hkn]; omega
              · exact xx_digN hkn
            rw [xx_decv_e dig0] at hK
            exact J185_0 _ hTv ((funext fun i => wq_up_cell (by decide)).trans hG1) ((wq_up_at (by decide)).trans hG2) a k g _ ha hak hk hg hK
          · skip
            refine wq_aload_n rfl rfl rfl ?_
            refine xm_getR (v := 36893488147419103233) (q := 57) rfl rfl (by decide) (by decide) (hTv.r (k := 57) 0 0 rfl (by decide) rfl) ?_
            refine wq_iload_n rfl rfl (show k < 4294967296 by omega) ?_
            refine wq_baload (q := 1) (n := 6000) rfl rfl (by decide) (by omega) (by decide) ?_
            refine wq_top ((wq_up_cell (by decide)).trans (congrFun hG1 k)) ?_
            refine xm_statI (as := [T k]) rfl (by decide) (Nat.le_of_ble_eq_true rfl) rfl (Nat.le_of_ble_eq_true rfl) rfl (xm_hexDigit (wm_cast ((wq_up_cell (by decide)).trans (congrFun hG1 k)) (hTv.ab (k := 1) rfl (by omega)))) ?_
            refine wq_istore rfl (lx_hex_lt (wm_cast ((wq_up_cell (by decide)).trans (congrFun hG1 k)) (hTv.ab (k := 1) rfl (by omega)))) (Nat.le_of_ble_eq_true rfl) (Or.inr ⟨_, rfl, (wq_notL (wm_zlt hg))⟩) (L' := [36893488147419103289, 0, a, k, g, lx_hex (T k)]) rfl ?_
            refine wq_iload_n rfl rfl (by decide) ?_
            refine wq_if_eq rfl rfl (by decide) (fun h4 => ?_) (fun h4 => ?_)
            · skip
              refine wq_iload rfl rfl (wm_zlt hg) ?_
              refine wq_aload_n rfl rfl rfl ?_
              refine xm_getR (v := v) (q := 57) rfl rfl (by decide) (by decide) (wq_up_same _ _ _ _) ?_
              refine wq_ldc2 rfl (by decide) ?_
              refine wq_iload rfl rfl (lx_hex_lt (wm_cast ((wq_up_cell (by decide)).trans (congrFun hG1 k)) (hTv.ab (k := 1) rfl (by omega)))) ?_
              refine wq_i2l rfl (lx_hex_lt (wm_cast ((wq_up_cell (by decide)).trans (congrFun hG1 k)) (hTv.ab (k := 1) rfl (by omega)))) ?_
              refine wq_lsub rfl rfl (wq_i2l_L (lx_hex_lt (wm_cast ((wq_up_cell (by decide)).trans (congrFun hG1 k)) (hTv.ab (k := 1) rfl (by omega))))) ?_
              refine wq_ldc2 rfl (by decide) ?_
              refine wq_ldiv rfl (wq_L_lsub rfl (wq_i2l_L (lx_hex_lt (wm_cast ((wq_up_cell (by decide)).trans (congrFun hG1 k)) (hTv.ab (k := 1) rfl (by omega)))))) rfl (by decide) ?_
              refine wq_lcmp rfl (wm_castL (wq_up_same _ _ _ _) (hTv.l (k := 57) 8 rfl (by decide) rfl)) (wq_L_ldiv (wq_L_lsub rfl (wq_i2l_L (lx_hex_lt (wm_cast ((wq_up_cell (by decide)).trans (congrFun hG1 k)) (hTv.ab (k := 1) rfl (by omega)))))) rfl) ?_
              refine wq_if_gt rfl rfl (wq_oCmp_lt _ _) (fun h5 => ?_) (fun h5 => ?_)
              · skip
                refine wq_iconst rfl rfl ?_
                refine J160 (by omega) (by omega) 0 (by decide) ?_
                rw [if_pos (by omega)]
              · skip
                refine wq_iconst rfl rfl ?_
                refine wq_goto rfl rfl ?_
                refine J160 (by omega) (by omega) 1 (by decide) ?_
                rw [if_neg (by omega)]
            · skip
              exact absurd rfl h4
        · skip
          exact absurd rfl h2
  have e : ev_ent [36893488147419103289] = [36893488147419103289] := by
    show 36893488147419103289 :: ev_ent [] = _
    rfl
  refine mq_of (maxL := 6) (rt := none) (code := (ev_un al_mX10_scanNumber.2.2.2.2)) (L := [36893488147419103289, 73786976294838206464, 73786976294838206464, 73786976294838206464, 73786976294838206464, 73786976294838206464]) rfl (by rw [e]; exact Nat.le_of_ble_eq_true rfl) (by rw [e]; rfl) ?_
  refine wq_aload_n rfl rfl rfl ?_
  refine xm_getR (v := 36893488147419103233) (q := 57) rfl rfl (by decide) (by decide) (hTG.r (k := 57) 0 0 rfl (by decide) rfl) ?_
  refine wq_aload_n rfl rfl rfl ?_
  refine xm_getR (v := p) (q := 57) rfl rfl (by decide) (by decide) hG5 ?_
  refine wq_baload (q := 1) (n := 6000) rfl rfl (by decide) (by omega) (by decide) ?_
  refine wq_top (congrFun hG1 p) ?_
  refine wq_bipush rfl rfl ?_
  refine wq_ic_ne rfl rfl (wm_cast (congrFun hG1 p) (hTG.ab (k := 1) rfl (by omega))) (by decide) (fun h1 => ?_) (fun h1 => ?_)
  · skip
    refine wq_iconst rfl rfl ?_
    refine wq_istore_n rfl (by decide) (Nat.le_of_ble_eq_true rfl) (Or.inr ⟨_, rfl, rfl⟩) (L' := [36893488147419103289, 0, 73786976294838206464, 73786976294838206464, 73786976294838206464, 73786976294838206464]) rfl ?_
    refine wq_iload_n rfl rfl (by decide) ?_
    refine wq_if_eq rfl rfl (by decide) (fun h2 => ?_) (fun h2 => ?_)
    · skip
      refine wq_aload_n rfl rfl rfl ?_
      refine xm_getR (v := p) (q := 57) rfl rfl (by decide) (by decide) hG5 ?_
      refine wq_istore_n rfl (wm_cast hG5 (hTG.i (k := 57) 5 rfl (by decide) rfl)) (Nat.le_of_ble_eq_true rfl) (Or.inr ⟨_, rfl, (wq_notL (by decide))⟩) (L' := [36893488147419103289, 0, p, 73786976294838206464, 73786976294838206464, 73786976294838206464]) rfl ?_
      refine wq_iload_n rfl rfl (wm_cast hG5 (hTG.i (k := 57) 5 rfl (by decide) rfl)) ?_
      refine wq_istore_n rfl (wm_cast hG5 (hTG.i (k := 57) 5 rfl (by decide) rfl)) (Nat.le_of_ble_eq_true rfl) (Or.inr ⟨_, rfl, (wq_notL (wm_cast hG5 (hTG.i (k := 57) 5 rfl (by decide) rfl)))⟩) (L' := [36893488147419103289, 0, p, p, 73786976294838206464, 73786976294838206464]) rfl ?_
      refine wq_iconst rfl rfl ?_
      refine wq_istore rfl (by decide) (Nat.le_of_ble_eq_true rfl) (Or.inr ⟨_, rfl, (wq_notL (wm_cast hG5 (hTG.i (k := 57) 5 rfl (by decide) rfl)))⟩) (L' := [36893488147419103289, 0, p, p, 1, 73786976294838206464]) rfl ?_
      refine wq_aload_n rfl rfl rfl ?_
      refine wq_lconst rfl ?_
      refine xm_put (q := 57) rfl rfl (by decide) (by decide) rfl ?_
      have hT3 := hTG.uf (k := 57) (f := 8) (c := 10) (v := 18446744073709551616) rfl (by decide) rfl rfl
      refine DX G hTG hG1 hG2 p (by omega) n p _ 1 _ (by omega) (Nat.le_refl _) (by omega) rfl (by decide) ?_
      unfold xx_num
      rw [if_neg (by omega)]
      exact wq_k0
    · skip
      exact absurd rfl h2
  · skip
    refine wq_aload_n rfl rfl rfl ?_
    refine wq_aload_n rfl rfl rfl ?_
    refine xm_getR (v := p) (q := 57) rfl rfl (by decide) (by decide) hG5 ?_
    refine wq_iconst rfl rfl ?_
    refine wq_iaddZ rfl (wm_cast hG5 (hTG.i (k := 57) 5 rfl (by decide) rfl)) (by decide) (z := p + 1) (by omega) ?_
    refine xm_virtI (q := 57) (as := [36893488147419103289, p + 1]) rfl rfl rfl (by decide) (by decide) (Nat.le_of_ble_eq_true rfl) rfl (Nat.le_of_ble_eq_true rfl) rfl (xm_byteAtG hTG hG1 hG2 (show p + 1 < 2147483648 by omega) hn) ?_
    refine wq_bipush rfl rfl ?_
    refine wq_ic_ne rfl rfl (xx_at2 (p + 1)) (by decide) (fun h4 => ?_) (fun h4 => ?_)
    · skip
      refine wq_iconst rfl rfl ?_
      refine wq_istore_n rfl (by decide) (Nat.le_of_ble_eq_true rfl) (Or.inr ⟨_, rfl, rfl⟩) (L' := [36893488147419103289, 0, 73786976294838206464, 73786976294838206464, 73786976294838206464, 73786976294838206464]) rfl ?_
      refine wq_iload_n rfl rfl (by decide) ?_
      refine wq_if_eq rfl rfl (by decide) (fun h5 => ?_) (fun h5 => ?_)
      · skip
        refine wq_aload_n rfl rfl rfl ?_
        refine xm_getR (v := p) (q := 57) rfl rfl (by decide) (by decide) hG5 ?_
        refine wq_istore_n rfl (wm_cast hG5 (hTG.i (k := 57) 5 rfl (by decide) rfl)) (Nat.le_of_ble_eq_true rfl) (Or.inr ⟨_, rfl, (wq_notL (by decide))⟩) (L' := [36893488147419103289, 0, p, 73786976294838206464, 73786976294838206464, 73786976294838206464]) rfl ?_
        refine wq_iload_n rfl rfl (wm_cast hG5 (hTG.i (k := 57) 5 rfl (by decide) rfl)) ?_
        refine wq_istore_n rfl (wm_cast hG5 (hTG.i (k := 57) 5 rfl (by decide) rfl)) (Nat.le_of_ble_eq_true rfl) (Or.inr ⟨_, rfl, (wq_notL (wm_cast hG5 (hTG.i (k := 57) 5 rfl (by decide) rfl)))⟩) (L' := [36893488147419103289, 0, p, p, 73786976294838206464, 73786976294838206464]) rfl ?_
        refine wq_iconst rfl rfl ?_
        refine wq_istore rfl (by decide) (Nat.le_of_ble_eq_true rfl) (Or.inr ⟨_, rfl, (wq_notL (wm_cast hG5 (hTG.i (k := 57) 5 rfl (by decide) rfl)))⟩) (L' := [36893488147419103289, 0, p, p, 1, 73786976294838206464]) rfl ?_
        refine wq_aload_n rfl rfl rfl ?_
        refine wq_lconst rfl ?_
        refine xm_put (q := 57) rfl rfl (by decide) (by decide) rfl ?_
        have hT6 := hTG.uf (k := 57) (f := 8) (c := 10) (v := 18446744073709551616) rfl (by decide) rfl rfl
        refine DX G hTG hG1 hG2 p (by omega) n p _ 1 _ (by omega) (Nat.le_refl _) (by omega) rfl (by decide) ?_
        unfold xx_num
        rw [if_neg (by omega)]
        exact wq_k0
      · skip
        exact absurd rfl h5
    · skip
      refine wq_iconst rfl rfl ?_
      refine wq_goto rfl rfl ?_
      refine wq_istore_n rfl (by decide) (Nat.le_of_ble_eq_true rfl) (Or.inr ⟨_, rfl, rfl⟩) (L' := [36893488147419103289, 1, 73786976294838206464, 73786976294838206464, 73786976294838206464, 73786976294838206464]) rfl ?_
      refine wq_iload_n rfl rfl (by decide) ?_
      refine wq_if_eq rfl rfl (by decide) (fun h7 => ?_) (fun h7 => ?_)
      · skip
        exact absurd h7 (by decide)
      · skip
        refine wq_aload_n rfl rfl rfl ?_
        refine xm_getR (v := p) (q := 57) rfl rfl (by decide) (by decide) hG5 ?_
        refine wq_iconst rfl rfl ?_
        refine wq_iaddZ rfl (wm_cast hG5 (hTG.i (k := 57) 5 rfl (by decide) rfl)) (by decide) (z := p + 2) (by omega) ?_
        refine wq_goto rfl rfl ?_
        refine wq_istore_n rfl (by omega) (Nat.le_of_ble_eq_true rfl) (Or.inr ⟨_, rfl, (wq_notL (by decide))⟩) (L' := [36893488147419103289, 1, p + 2, 73786976294838206464, 73786976294838206464, 73786976294838206464]) rfl ?_
        refine wq_iload_n rfl rfl (by omega) ?_
        refine wq_istore_n rfl (by omega) (Nat.le_of_ble_eq_true rfl) (Or.inr ⟨_, rfl, (wq_notL (by omega))⟩) (L' := [36893488147419103289, 1, p + 2, p + 2, 73786976294838206464, 73786976294838206464]) rfl ?_
        refine wq_iconst rfl rfl ?_
        refine wq_istore rfl (by decide) (Nat.le_of_ble_eq_true rfl) (Or.inr ⟨_, rfl, (wq_notL (by omega))⟩) (L' := [36893488147419103289, 1, p + 2, p + 2, 1, 73786976294838206464]) rfl ?_
        refine wq_aload_n rfl rfl rfl ?_
        refine wq_lconst rfl ?_
        refine xm_put (q := 57) rfl rfl (by decide) (by decide) rfl ?_
        have hT8 := hTG.uf (k := 57) (f := 8) (c := 10) (v := 18446744073709551616) rfl (by decide) rfl rfl
        have hp1 : p + 1 < n := lx_at_in (T := T) (by omega)
        refine HX G hTG hG1 hG2 (p + 2) (by omega) n (p + 2) _ _ (by omega) (Nat.le_refl _) (by omega) rfl ?_
        unfold xx_num
        rw [if_pos ⟨by omega, by omega⟩]
        exact wq_k0
