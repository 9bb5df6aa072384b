/-! ===== 63: the reference's readWhole (by wip/whole2/law63.py) ===== -/
theorem lx_hex_lt {c : Nat} (hc : c < 4294967296) : lx_hex c < 4294967296 := by
  unfold lx_hex
  split
  · omega
  · split
    · omega
    · split <;> omega
theorem lx_letter_lt (c : Nat) : lx_letter c < 4294967296 := by
  unfold lx_letter
  split <;> decide
theorem lx_hex_in {T : Nat → Nat} {n k : Nat} (h : lx_hex (lx_at T n k) < 2147483648) : k < n := by
  refine lx_at_in (T := T) (fun q => ?_)
  rw [q] at h
  exact absurd h (by decide)
theorem lx_digit_in {T : Nat → Nat} {n k : Nat} (h : ¬ lx_digit (lx_at T n k) = 0) : k < n := by
  refine lx_at_in (T := T) (fun q => ?_)
  rw [q] at h
  exact absurd rfl h
/-- hexadecimal digits: where they end, their worth -/
def lx_hexv (T : Nat → Nat) (n : Nat) : Nat → Nat → Nat → Nat × Nat
  | 0, k, v => (k, v)
  | f + 1, k, v => if lx_hex (lx_at T n k) < 2147483648 then lx_hexv T n f (k + 1) (ev_oOrL (ev_oShlL v 4) (ev_oI2l (lx_hex (lx_at T n k)))) else (k, v)
theorem lx_hexv_s {T : Nat → Nat} {n f k v : Nat} (h : lx_hex (lx_at T n k) < 2147483648) : lx_hexv T n (f + 1) k v = lx_hexv T n f (k + 1) (ev_oOrL (ev_oShlL v 4) (ev_oI2l (lx_hex (lx_at T n k)))) := if_pos h
theorem lx_hexv_e {T : Nat → Nat} {n f k v : Nat} (h : ¬ lx_hex (lx_at T n k) < 2147483648) : lx_hexv T n (f + 1) k v = (k, v) := if_neg h
def lx_dec1 (v c : Nat) : Nat := ev_oSubL (ev_oAddL (ev_oMulL (18446744073709551626 - 18446744073709551616) (v - 18446744073709551616) - 18446744073709551616) (ev_oI2l c - 18446744073709551616) - 18446744073709551616) (18446744073709551664 - 18446744073709551616)
/-- still a whole of 64 bits with one digit more? -/
def lx_good (v g c : Nat) : Nat := if ¬ g = 0 ∧ (2147483648 ≤ ev_oCmpL (v - 18446744073709551616) (18446744073709551616 + 922337203685477580 - 18446744073709551616) ∨ (ev_oCmpL (v - 18446744073709551616) (18446744073709551616 + 922337203685477580 - 18446744073709551616) = 0 ∧ c ≤ 55)) then 1 else 0
/-- decimal digits: where they end, their worth, whether it is one -/
def lx_decv (T : Nat → Nat) (n : Nat) : Nat → Nat → Nat → Nat → Nat × Nat × Nat
  | 0, k, v, g => (k, v, g)
  | f + 1, k, v, g => if lx_digit (lx_at T n k) = 0 then (k, v, g) else lx_decv T n f (k + 1) (lx_dec1 v (lx_at T n k)) (lx_good v g (lx_at T n k))
theorem lx_decv_s {T : Nat → Nat} {n f k v g : Nat} (h : ¬ lx_digit (lx_at T n k) = 0) : lx_decv T n (f + 1) k v g = lx_decv T n f (k + 1) (lx_dec1 v (lx_at T n k)) (lx_good v g (lx_at T n k)) := if_neg h
theorem lx_decv_e {T : Nat → Nat} {n f k v g : Nat} (h : lx_digit (lx_at T n k) = 0) : lx_decv T n (f + 1) k v g = (k, v, g) := if_pos h
theorem lx_dec1_L (v c : Nat) : ev_isL (lx_dec1 v c) = true := wq_Lof (Nat.mod_lt _ (by decide))
theorem lx_good2 (v g c : Nat) : lx_good v g c < 2 := by
  unfold lx_good
  split <;> decide
/-- what stands behind it -/
def lx_fin (T : Nat → Nat) (n k g : Nat) : Nat := if ¬ g = 0 ∧ lx_letter (lx_at T n k) = 0 ∧ lx_digit (lx_at T n k) = 0 then 2 else 7
def lx_g16 (a k : Nat) : Nat := if a < k ∧ k - a ≤ 16 then 1 else 0
def lx_g19 (p k g : Nat) : Nat := if ¬ g = 0 ∧ k - p ≤ 19 then 1 else 0
/-- kind, worth and end of a whole number at a place -/
def lx_num (T : Nat → Nat) (n p : Nat) : Nat × Nat × Nat := if lx_at T n p = 48 ∧ lx_at T n (p + 1) = 120 then (lx_fin T n (lx_hexv T n n (p + 2) 18446744073709551616).1 (lx_g16 (p + 2) (lx_hexv T n n (p + 2) 18446744073709551616).1), (lx_hexv T n n (p + 2) 18446744073709551616).2, (lx_hexv T n n (p + 2) 18446744073709551616).1) else (lx_fin T n (lx_decv T n n p 18446744073709551616 1).1 (lx_g19 p (lx_decv T n n p 18446744073709551616 1).1 (lx_decv T n n p 18446744073709551616 1).2.2), (lx_decv T n n p 18446744073709551616 1).2.1, (lx_decv T n n p 18446744073709551616 1).1)
theorem wm_readWhole {F : wq_F} (hT : wm_T F) (hn : F 0 2 ≤ 6000) (hC : ∀ i, i < F 0 2 → F 1 i < 256) {d p : Nat} (hp : p ≤ F 0 2) : mq (d + 3) 203 [36893488147419103232, p] wm_sh F (wq_k none wm_sh (wq_up (wq_up (wq_up F 0 67 (lx_num (F 1) (F 0 2) p).1) 0 68 (lx_num (F 1) (F 0 2) p).2.1) 0 69 (lx_num (F 1) (F 0 2) p).2.2)) := by
  have J218 : ∀ (k v g x z : Nat), k ≤ F 0 2 → ev_isL v = true → g < 2 → z < 4294967296 → ∀ {K : Option Nat → List (Nat × Nat) → wq_F → Nat → Nat → Prop}, K none wm_sh (wq_up (wq_up (wq_up F 0 67 z) 0 68 v) 0 69 k) 0 0 → wq (wq_cf (d + 2)) (ev_un al_mX12_readWhole.2.2.2.2) none 218 [36893488147419103232, p, k, v, 73786976294838206464, g, x] [z, 36893488147419103232] wm_sh F 0 0 K := by
    intro k v g x z hk hv hg hz K hK
    refine wm_put rfl (by decide) (wq_I hz) ?_
    have hT1 := hT.uf (f := 67) (c := 0) (v := z) rfl hz
    refine wq_aload_n rfl rfl rfl ?_
    refine wq_lload_n rfl rfl hv ?_
    refine wm_put rfl (by decide) hv ?_
    have hT2 := hT1.uf (f := 68) (c := 10) (v := v) rfl hv
    refine wq_aload_n rfl rfl rfl ?_
    refine wq_iload_n rfl rfl (show k < 4294967296 by omega) ?_
    refine wm_put rfl (by decide) (wq_I (show k < 4294967296 by omega)) ?_
    have hT3 := hT2.uf (f := 69) (c := 0) (v := k) rfl (show k < 4294967296 by omega)
    exact wq_ret rfl hK
  have J184 : ∀ (k v g x : Nat), k ≤ F 0 2 → ev_isL v = true → g < 2 → ∀ {K : Option Nat → List (Nat × Nat) → wq_F → Nat → Nat → Prop}, K none wm_sh (wq_up (wq_up (wq_up F 0 67 (lx_fin (F 1) (F 0 2) k g)) 0 68 v) 0 69 k) 0 0 → wq (wq_cf (d + 2)) (ev_un al_mX12_readWhole.2.2.2.2) none 184 [36893488147419103232, p, k, v, 73786976294838206464, g, x] [] wm_sh F 0 0 K := by
    intro k v g x hk hv hg K hK
    refine wq_aload_n rfl rfl rfl ?_
    refine wq_iload rfl rfl (wm_zlt hg) ?_
    refine wq_if_eq rfl rfl (wm_zlt hg) (fun h1 => ?_) (fun h1 => ?_)
    · skip
      refine wq_bipush rfl rfl ?_
      refine J218 k v g x 7 hk hv hg (by decide) ?_
      rw [show lx_fin (F 1) (F 0 2) k g = 7 from if_neg (by omega)] at hK
      exact hK
    · skip
      refine wq_aload_n rfl rfl rfl ?_
      refine wq_iload_n rfl rfl (show k < 4294967296 by omega) ?_
      refine wm_virtI (as := [36893488147419103232, k]) rfl rfl (by decide) (Nat.le_of_ble_eq_true rfl) rfl (Nat.le_of_ble_eq_true rfl) rfl (wm_at hT (show k < 2147483648 by omega) hn) ?_
      refine wm_statI (as := [lx_at (F 1) (F 0 2) k]) rfl (by decide) (Nat.le_of_ble_eq_true rfl) rfl (Nat.le_of_ble_eq_true rfl) rfl (wm_isLetter (lx_at_lt hC _)) ?_
      refine wq_if_ne rfl rfl (lx_letter_lt _) (fun h2 => ?_) (fun h2 => ?_)
      · skip
        refine wq_bipush rfl rfl ?_
        refine J218 k v g x 7 hk hv hg (by decide) ?_
        rw [show lx_fin (F 1) (F 0 2) k g = 7 from if_neg (by omega)] at hK
        exact hK
      · skip
        refine wq_aload_n rfl rfl rfl ?_
        refine wq_iload_n rfl rfl (show k < 4294967296 by omega) ?_
        refine wm_virtI (as := [36893488147419103232, k]) rfl rfl (by decide) (Nat.le_of_ble_eq_true rfl) rfl (Nat.le_of_ble_eq_true rfl) rfl (wm_at hT (show k < 2147483648 by omega) hn) ?_
        refine wm_statI (as := [lx_at (F 1) (F 0 2) k]) rfl (by decide) (Nat.le_of_ble_eq_true rfl) rfl (Nat.le_of_ble_eq_true rfl) rfl (wm_isDigit (lx_at_lt hC _)) ?_
        refine wq_if_ne rfl rfl (lx_digit_lt _) (fun h3 => ?_) (fun h3 => ?_)
        · skip
          refine wq_bipush rfl rfl ?_
          refine J218 k v g x 7 hk hv hg (by decide) ?_
          rw [show lx_fin (F 1) (F 0 2) k g = 7 from if_neg (by omega)] at hK
          exact hK
        · skip
          refine wq_iconst rfl rfl ?_
          refine wq_goto rfl rfl ?_
          refine J218 k v g x 2 hk hv hg (by decide) ?_
          rw [show lx_fin (F 1) (F 0 2) k g = 2 from if_pos ⟨by omega, by omega, by omega⟩] at hK
          exact hK
  have J67 : ∀ (a k v : Nat), a ≤ F 0 2 → a ≤ k → k ≤ F 0 2 → ev_isL v = true → ∀ {K : Option Nat → List (Nat × Nat) → wq_F → Nat → Nat → Prop}, K none wm_sh (wq_up (wq_up (wq_up F 0 67 (lx_fin (F 1) (F 0 2) k (lx_g16 a k))) 0 68 v) 0 69 k) 0 0 → wq (wq_cf (d + 2)) (ev_un al_mX12_readWhole.2.2.2.2) none 67 [36893488147419103232, p, k, v, 73786976294838206464, 1, a] [] wm_sh F 0 0 K := by
    intro a k v ha hak hk hv K hK
    refine wq_iload_n rfl rfl (show k < 4294967296 by omega) ?_
    refine wq_iload rfl rfl (show a < 4294967296 by omega) ?_
    refine wq_ic_le rfl rfl (show k < 4294967296 by omega) (show a < 4294967296 by omega) (fun h1 => ?_) (fun h1 => ?_)
    · skip
      unfold ev_s at h1
      refine wq_iconst rfl rfl ?_
      refine wq_istore rfl (by decide) (Nat.le_of_ble_eq_true rfl) (Or.inr ⟨_, rfl, rfl⟩) (L' := [36893488147419103232, p, k, v, 73786976294838206464, 0, a]) rfl ?_
      refine wq_goto rfl rfl ?_
      refine J184 k v 0 a (by omega) hv (by decide) ?_
      rw [show lx_g16 a k = 0 from if_neg (by omega)] at hK
      exact hK
    · skip
      unfold ev_s at h1
      refine wq_iload_n rfl rfl (show k < 4294967296 by omega) ?_
      refine wq_iload rfl rfl (show a < 4294967296 by omega) ?_
      refine wq_isubZ rfl (show k < 4294967296 by omega) (show a < 4294967296 by omega) (z := k - a) (by omega) ?_
      refine wq_bipush rfl rfl ?_
      refine wq_ic_gt rfl rfl (by omega) (by decide) (fun h2 => ?_) (fun h2 => ?_)
      · skip
        unfold ev_s at h2
        refine wq_iconst rfl rfl ?_
        refine wq_istore rfl (by decide) (Nat.le_of_ble_eq_true rfl) (Or.inr ⟨_, rfl, rfl⟩) (L' := [36893488147419103232, p, k, v, 73786976294838206464, 0, a]) rfl ?_
        refine wq_goto rfl rfl ?_
        refine J184 k v 0 a (by omega) hv (by decide) ?_
        rw [show lx_g16 a k = 0 from if_neg (by omega)] at hK
        exact hK
      · skip
        unfold ev_s at h2
        refine wq_iconst rfl rfl ?_
        refine wq_goto rfl rfl ?_
        refine wq_istore rfl (by decide) (Nat.le_of_ble_eq_true rfl) (Or.inr ⟨_, rfl, rfl⟩) (L' := [36893488147419103232, p, k, v, 73786976294838206464, 1, a]) rfl ?_
        refine wq_goto rfl rfl ?_
        refine J184 k v 1 a (by omega) hv (by decide) ?_
        rw [show lx_g16 a k = 1 from if_pos ⟨by omega, by omega⟩] at hK
        exact hK
  have HX : ∀ (a : Nat), a ≤ F 0 2 → ∀ (f k v : Nat), F 0 2 ≤ f + k → a ≤ k → k ≤ F 0 2 → ev_isL v = true → ∀ {K : Option Nat → List (Nat × Nat) → wq_F → Nat → Nat → Prop}, K none wm_sh (wq_up (wq_up (wq_up F 0 67 (lx_fin (F 1) (F 0 2) (lx_hexv (F 1) (F 0 2) f k v).1 (lx_g16 a (lx_hexv (F 1) (F 0 2) f k v).1))) 0 68 (lx_hexv (F 1) (F 0 2) f k v).2) 0 69 (lx_hexv (F 1) (F 0 2) f k v).1) 0 0 → wq (wq_cf (d + 2)) (ev_un al_mX12_readWhole.2.2.2.2) none 36 [36893488147419103232, p, k, v, 73786976294838206464, 1, a] [] wm_sh F 0 0 K := by
    intro a ha f
    induction f with
    | zero =>
      intro k v h1 hak hk hv K hK
      refine wq_aload_n rfl rfl rfl ?_
      refine wq_iload_n rfl rfl (show k < 4294967296 by omega) ?_
      refine wm_virtI (as := [36893488147419103232, k]) rfl rfl (by decide) (Nat.le_of_ble_eq_true rfl) rfl (Nat.le_of_ble_eq_true rfl) rfl (wm_at hT (show k < 2147483648 by omega) hn) ?_
      refine wm_statI (as := [lx_at (F 1) (F 0 2) k]) rfl (by decide) (Nat.le_of_ble_eq_true rfl) rfl (Nat.le_of_ble_eq_true rfl) rfl (wm_hex (lx_at_lt hC _)) ?_
      refine wq_if_lt rfl rfl (lx_hex_lt (lx_at_lt hC _)) (fun h1 => ?_) (fun h1 => ?_)
      · skip
        exact J67 a k v ha hak hk hv hK
      · skip
        have hkn := lx_hex_in (T := F 1) (n := F 0 2) (k := k) (by omega)
        exact absurd hkn (by omega)
    | succ f ih =>
      intro k v h1 hak hk hv K hK
      refine wq_aload_n rfl rfl rfl ?_
      refine wq_iload_n rfl rfl (show k < 4294967296 by omega) ?_
      refine wm_virtI (as := [36893488147419103232, k]) rfl rfl (by decide) (Nat.le_of_ble_eq_true rfl) rfl (Nat.le_of_ble_eq_true rfl) rfl (wm_at hT (show k < 2147483648 by omega) hn) ?_
      refine wm_statI (as := [lx_at (F 1) (F 0 2) k]) rfl (by decide) (Nat.le_of_ble_eq_true rfl) rfl (Nat.le_of_ble_eq_true rfl) rfl (wm_hex (lx_at_lt hC _)) ?_
      refine wq_if_lt rfl rfl (lx_hex_lt (lx_at_lt hC _)) (fun h1 => ?_) (fun h1 => ?_)
      · skip
        rw [lx_hexv_e (by omega)] at hK
        exact J67 a k v ha hak hk hv hK
      · skip
        have hkn := lx_hex_in (T := F 1) (n := F 0 2) (k := k) (by omega)
        refine wq_lload_n rfl rfl hv ?_
        refine wq_iconst rfl rfl ?_
        refine wq_lshl rfl hv (by decide) ?_
        refine wq_aload_n rfl rfl rfl ?_
        refine wq_iload_n rfl rfl (show k < 4294967296 by omega) ?_
        refine wm_virtI (as := [36893488147419103232, k]) rfl rfl (by decide) (Nat.le_of_ble_eq_true rfl) rfl (Nat.le_of_ble_eq_true rfl) rfl (wm_at hT (show k < 2147483648 by omega) hn) ?_
        refine wm_statI (as := [lx_at (F 1) (F 0 2) k]) rfl (by decide) (Nat.le_of_ble_eq_true rfl) rfl (Nat.le_of_ble_eq_true rfl) rfl (wm_hex (lx_at_lt hC _)) ?_
        refine wq_i2l rfl (lx_hex_lt (lx_at_lt hC _)) ?_
        refine wq_lor rfl (wq_L_lshl hv (by decide)) (wq_i2l_L (lx_hex_lt (lx_at_lt hC _))) ?_
        refine wq_lstore_n rfl (wq_L_lor (wq_L_lshl hv (by decide)) (wq_i2l_L (lx_hex_lt (lx_at_lt hC _)))) (Nat.le_of_ble_eq_true rfl) (Or.inr ⟨_, rfl, (wq_notL (show k < 4294967296 by omega))⟩) (L' := [36893488147419103232, p, k, ev_oOrL (ev_oShlL v 4) (ev_oI2l (lx_hex (lx_at (F 1) (F 0 2) k))), 73786976294838206464, 1, a]) rfl ?_
        refine wq_iincZ rfl rfl (show k < 4294967296 by omega) (Or.inr ⟨_, rfl, (wq_notL (show p < 4294967296 by omega))⟩) rfl (z := k + 1) (by omega) (L' := [36893488147419103232, p, k + 1, ev_oOrL (ev_oShlL v 4) (ev_oI2l (lx_hex (lx_at (F 1) (F 0 2) k))), 73786976294838206464, 1, a]) rfl ?_
        refine wq_goto rfl rfl ?_
        rw [lx_hexv_s (by omega)] at hK
        exact ih (k + 1) _ (by omega) (by omega) (by omega) (wq_L_lor (wq_L_lshl hv (by decide)) (wq_i2l_L (lx_hex_lt (lx_at_lt hC _)))) hK
  have J164 : ∀ (k v g : Nat), p ≤ k → k ≤ F 0 2 → ev_isL v = true → g < 2 → ∀ {K : Option Nat → List (Nat × Nat) → wq_F → Nat → Nat → Prop}, K none wm_sh (wq_up (wq_up (wq_up F 0 67 (lx_fin (F 1) (F 0 2) k (lx_g19 p k g))) 0 68 v) 0 69 k) 0 0 → wq (wq_cf (d + 2)) (ev_un al_mX12_readWhole.2.2.2.2) none 164 [36893488147419103232, p, k, v, 73786976294838206464, g, 73786976294838206464] [] wm_sh F 0 0 K := by
    intro k v g hpk hk hv hg K hK
    refine wq_iload rfl rfl (wm_zlt hg) ?_
    refine wq_if_eq rfl rfl (wm_zlt hg) (fun h1 => ?_) (fun h1 => ?_)
    · skip
      refine wq_iconst rfl rfl ?_
      refine wq_istore rfl (by decide) (Nat.le_of_ble_eq_true rfl) (Or.inr ⟨_, rfl, rfl⟩) (L' := [36893488147419103232, p, k, v, 73786976294838206464, 0, 73786976294838206464]) rfl ?_
      refine J184 k v 0 _ (by omega) hv (by decide) ?_
      rw [show lx_g19 p k g = 0 from if_neg (by omega)] at hK
      exact hK
    · skip
      refine wq_iload_n rfl rfl (show k < 4294967296 by omega) ?_
      refine wq_iload_n rfl rfl (show p < 4294967296 by omega) ?_
      refine wq_isubZ rfl (show k < 4294967296 by omega) (show p < 4294967296 by omega) (z := k - p) (by omega) ?_
      refine wq_bipush rfl rfl ?_
      refine wq_ic_gt rfl rfl (by omega) (by decide) (fun h2 => ?_) (fun h2 => ?_)
      · skip
        unfold ev_s at h2
        refine wq_iconst rfl rfl ?_
        refine wq_istore rfl (by decide) (Nat.le_of_ble_eq_true rfl) (Or.inr ⟨_, rfl, rfl⟩) (L' := [36893488147419103232, p, k, v, 73786976294838206464, 0, 73786976294838206464]) rfl ?_
        refine J184 k v 0 _ (by omega) hv (by decide) ?_
        rw [show lx_g19 p k g = 0 from if_neg (by omega)] at hK
        exact hK
      · skip
        unfold ev_s at h2
        refine wq_iconst rfl rfl ?_
        refine wq_goto rfl rfl ?_
        refine wq_istore rfl (by decide) (Nat.le_of_ble_eq_true rfl) (Or.inr ⟨_, rfl, rfl⟩) (L' := [36893488147419103232, p, k, v, 73786976294838206464, 1, 73786976294838206464]) rfl ?_
        refine J184 k v 1 _ (by omega) hv (by decide) ?_
        rw [show lx_g19 p k g = 1 from if_pos ⟨by omega, by omega⟩] at hK
        exact hK
  have DX : ∀ (f k v g : Nat), F 0 2 ≤ f + k → p ≤ k → k ≤ F 0 2 → ev_isL v = true → g < 2 → ∀ {K : Option Nat → List (Nat × Nat) → wq_F → Nat → Nat → Prop}, K none wm_sh (wq_up (wq_up (wq_up F 0 67 (lx_fin (F 1) (F 0 2) (lx_decv (F 1) (F 0 2) f k v g).1 (lx_g19 p (lx_decv (F 1) (F 0 2) f k v g).1 (lx_decv (F 1) (F 0 2) f k v g).2.2))) 0 68 (lx_decv (F 1) (F 0 2) f k v g).2.1) 0 69 (lx_decv (F 1) (F 0 2) f k v g).1) 0 0 → wq (wq_cf (d + 2)) (ev_un al_mX12_readWhole.2.2.2.2) none 92 [36893488147419103232, p, k, v, 73786976294838206464, g, 73786976294838206464] [] wm_sh F 0 0 K := by
    intro f
    induction f with
    | zero =>
      intro k v g h1 hpk hk hv hg K hK
      refine wq_aload_n rfl rfl rfl ?_
      refine wq_iload_n rfl rfl (show k < 4294967296 by omega) ?_
      refine wm_virtI (as := [36893488147419103232, k]) rfl rfl (by decide) (Nat.le_of_ble_eq_true rfl) rfl (Nat.le_of_ble_eq_true rfl) rfl (wm_at hT (show k < 2147483648 by omega) hn) ?_
      refine wm_statI (as := [lx_at (F 1) (F 0 2) k]) rfl (by decide) (Nat.le_of_ble_eq_true rfl) rfl (Nat.le_of_ble_eq_true rfl) rfl (wm_isDigit (lx_at_lt hC _)) ?_
      refine wq_if_eq rfl rfl (lx_digit_lt _) (fun h1 => ?_) (fun h1 => ?_)
      · skip
        exact J164 k v g hpk hk hv hg hK
      · skip
        exact absurd (lx_digit_in (T := F 1) (n := F 0 2) (k := k) h1) (by omega)
    | succ f ih =>
      intro k v g h1 hpk hk hv hg K hK
      have J139 : ∀ (z : Nat), z < 2 → lx_good v g (lx_at (F 1) (F 0 2) k) = z → ∀ {K : Option Nat → List (Nat × Nat) → wq_F → Nat → Nat → Prop}, ¬ lx_digit (lx_at (F 1) (F 0 2) k) = 0 → K none wm_sh (wq_up (wq_up (wq_up F 0 67 (lx_fin (F 1) (F 0 2) (lx_decv (F 1) (F 0 2) (f + 1) k v g).1 (lx_g19 p (lx_decv (F 1) (F 0 2) (f + 1) k v g).1 (lx_decv (F 1) (F 0 2) (f + 1) k v g).2.2))) 0 68 (lx_decv (F 1) (F 0 2) (f + 1) k v g).2.1) 0 69 (lx_decv (F 1) (F 0 2) (f + 1) k v g).1) 0 0 → wq (wq_cf (d + 2)) (ev_un al_mX12_readWhole.2.2.2.2) none 139 [36893488147419103232, p, k, v, 73786976294838206464, g, 73786976294838206464] [z] wm_sh F 0 0 K := by
        intro z hz hzg K hdg hK
        have hkn := lx_digit_in (T := F 1) (n := F 0 2) (k := k) hdg
        rw [lx_decv_s hdg] at hK
        refine wq_istore rfl (wm_zlt hz) (Nat.le_of_ble_eq_true rfl) (Or.inr ⟨_, rfl, rfl⟩) (L' := [36893488147419103232, p, k, v, 73786976294838206464, z, 73786976294838206464]) rfl ?_
        refine wq_ldc2 rfl (by decide) ?_
        refine wq_lload_n rfl rfl hv ?_
        refine wq_lmul rfl rfl hv ?_
        refine wq_aload_n rfl rfl rfl ?_
        refine wq_iload_n rfl rfl (show k < 4294967296 by omega) ?_
        refine wm_virtI (as := [36893488147419103232, k]) rfl rfl (by decide) (Nat.le_of_ble_eq_true rfl) rfl (Nat.le_of_ble_eq_true rfl) rfl (wm_at hT (show k < 2147483648 by omega) hn) ?_
        refine wq_i2l rfl (lx_at_lt hC _) ?_
        refine wq_ladd rfl (wq_L_lmul rfl hv) (wq_i2l_L (lx_at_lt hC _)) ?_
        refine wq_ldc2 rfl (by decide) ?_
        refine wq_lsub rfl (wq_L_ladd (wq_L_lmul rfl hv) (wq_i2l_L (lx_at_lt hC _))) rfl ?_
        refine wq_lstore_n rfl (wq_L_lsub (wq_L_ladd (wq_L_lmul rfl hv) (wq_i2l_L (lx_at_lt hC _))) rfl) (Nat.le_of_ble_eq_true rfl) (Or.inr ⟨_, rfl, (wq_notL (show k < 4294967296 by omega))⟩) (L' := [36893488147419103232, p, k, ev_oSubL ((ev_oAddL ((ev_oMulL (18446744073709551626 - 18446744073709551616) (v - 18446744073709551616)) - 18446744073709551616) ((ev_oI2l (lx_at (F 1) (F 0 2) k)) - 18446744073709551616)) - 18446744073709551616) (18446744073709551664 - 18446744073709551616), 73786976294838206464, z, 73786976294838206464]) rfl ?_
        refine wq_iincZ rfl rfl (show k < 4294967296 by omega) (Or.inr ⟨_, rfl, (wq_notL (show p < 4294967296 by omega))⟩) rfl (z := k + 1) (by omega) (L' := [36893488147419103232, p, k + 1, ev_oSubL ((ev_oAddL ((ev_oMulL (18446744073709551626 - 18446744073709551616) (v - 18446744073709551616)) - 18446744073709551616) ((ev_oI2l (lx_at (F 1) (F 0 2) k)) - 18446744073709551616)) - 18446744073709551616) (18446744073709551664 - 18446744073709551616), 73786976294838206464, z, 73786976294838206464]) rfl ?_
        refine wq_goto rfl rfl ?_
        subst hzg
        exact ih (k + 1) _ _ (by omega) (by omega) (by omega) (lx_dec1_L _ _) hz hK
      refine wq_aload_n rfl rfl rfl ?_
      refine wq_iload_n rfl rfl (show k < 4294967296 by omega) ?_
      refine wm_virtI (as := [36893488147419103232, k]) rfl rfl (by decide) (Nat.le_of_ble_eq_true rfl) rfl (Nat.le_of_ble_eq_true rfl) rfl (wm_at hT (show k < 2147483648 by omega) hn) ?_
      refine wm_statI (as := [lx_at (F 1) (F 0 2) k]) rfl (by decide) (Nat.le_of_ble_eq_true rfl) rfl (Nat.le_of_ble_eq_true rfl) rfl (wm_isDigit (lx_at_lt hC _)) ?_
      refine wq_if_eq rfl rfl (lx_digit_lt _) (fun h1 => ?_) (fun h1 => ?_)
      · skip
        rw [lx_decv_e (by omega)] at hK
        exact J164 k v g hpk hk hv hg hK
      · skip
        refine wq_iload rfl rfl (wm_zlt hg) ?_
        refine wq_if_eq rfl rfl (wm_zlt hg) (fun h2 => ?_) (fun h2 => ?_)
        · skip
          refine wq_iconst rfl rfl ?_
          have hd9 := lx_digit9 (c := lx_at (F 1) (F 0 2) k) (by omega)
          exact J139 0 (by decide) (by unfold lx_good; rw [if_neg (by omega)]) (by omega) hK
        · skip
          refine wq_lload_n rfl rfl hv ?_
          refine wq_ldc2 rfl (by decide) ?_
          refine wq_lcmp rfl hv rfl ?_
          refine wq_if_lt rfl rfl (wq_oCmp_lt _ _) (fun h3 => ?_) (fun h3 => ?_)
          · skip
            refine wq_iconst rfl rfl ?_
            refine wq_goto rfl rfl ?_
            have hd9 := lx_digit9 (c := lx_at (F 1) (F 0 2) k) (by omega)
            exact J139 1 (by decide) (by unfold lx_good; rw [if_pos ⟨by omega, by omega⟩]) (by omega) hK
          · skip
            refine wq_lload_n rfl rfl hv ?_
            refine wq_ldc2 rfl (by decide) ?_
            refine wq_lcmp rfl hv rfl ?_
            refine wq_if_ne rfl rfl (wq_oCmp_lt _ _) (fun h4 => ?_) (fun h4 => ?_)
            · skip
              refine wq_iconst rfl rfl ?_
              have hd9 := lx_digit9 (c := lx_at (F 1) (F 0 2) k) (by omega)
              exact J139 0 (by decide) (by unfold lx_good; rw [if_neg (by omega)]) (by omega) hK
            · skip
              refine wq_aload_n rfl rfl rfl ?_
              refine wq_iload_n rfl rfl (show k < 4294967296 by omega) ?_
              refine wm_virtI (as := [36893488147419103232, k]) rfl rfl (by decide) (Nat.le_of_ble_eq_true rfl) rfl (Nat.le_of_ble_eq_true rfl) rfl (wm_at hT (show k < 2147483648 by omega) hn) ?_
              refine wq_bipush rfl rfl ?_
              refine wq_ic_gt rfl rfl (lx_at_lt hC _) (by decide) (fun h5 => ?_) (fun h5 => ?_)
              · skip
                unfold ev_s at h5
                refine wq_iconst rfl rfl ?_
                have hd9 := lx_digit9 (c := lx_at (F 1) (F 0 2) k) (by omega)
                exact J139 0 (by decide) (by unfold lx_good; rw [if_neg (by omega)]) (by omega) hK
              · skip
                unfold ev_s at h5
                refine wq_iconst rfl rfl ?_
                refine wq_goto rfl rfl ?_
                have hd9 := lx_digit9 (c := lx_at (F 1) (F 0 2) k) (by omega)
                exact J139 1 (by decide) (by unfold lx_good; rw [if_pos ⟨by omega, by omega⟩]) (by omega) hK
  have e : ev_ent [36893488147419103232, p] = [36893488147419103232, p] := by
    show 36893488147419103232 :: ev_ent [p] = _
    rw [wm_entI (show p < 4294967296 by omega)]
    rfl
  refine mq_of (maxL := 7) (rt := none) (code := (ev_un al_mX12_readWhole.2.2.2.2)) (L := [36893488147419103232, p, 73786976294838206464, 73786976294838206464, 73786976294838206464, 73786976294838206464, 73786976294838206464]) rfl (by rw [e]; exact Nat.le_of_ble_eq_true rfl) (by rw [e]; rfl) ?_
  refine wq_iload_n rfl rfl (show p < 4294967296 by omega) ?_
  refine wq_istore_n rfl (show p < 4294967296 by omega) (Nat.le_of_ble_eq_true rfl) (Or.inr ⟨_, rfl, (wq_notL (show p < 4294967296 by omega))⟩) (L' := [36893488147419103232, p, p, 73786976294838206464, 73786976294838206464, 73786976294838206464, 73786976294838206464]) rfl ?_
  refine wq_lconst rfl ?_
  refine wq_lstore_n rfl rfl (Nat.le_of_ble_eq_true rfl) (Or.inr ⟨_, rfl, (wq_notL (show p < 4294967296 by omega))⟩) (L' := [36893488147419103232, p, p, 18446744073709551616, 73786976294838206464, 73786976294838206464, 73786976294838206464]) rfl ?_
  refine wq_iconst rfl rfl ?_
  refine wq_istore rfl (by decide) (Nat.le_of_ble_eq_true rfl) (Or.inr ⟨_, rfl, rfl⟩) (L' := [36893488147419103232, p, p, 18446744073709551616, 73786976294838206464, 1, 73786976294838206464]) rfl ?_
  refine wq_aload_n rfl rfl rfl ?_
  refine wq_iload_n rfl rfl (show p < 4294967296 by omega) ?_
  refine wm_virtI (as := [36893488147419103232, p]) rfl rfl (by decide) (Nat.le_of_ble_eq_true rfl) rfl (Nat.le_of_ble_eq_true rfl) rfl (wm_at hT (show p < 2147483648 by omega) hn) ?_
  refine wq_bipush rfl rfl ?_
  refine wq_ic_ne rfl rfl (lx_at_lt hC _) (by decide) (fun h1 => ?_) (fun h1 => ?_)
  · skip
    refine DX (F 0 2) p _ 1 (by omega) (Nat.le_refl _) (by omega) rfl (by decide) ?_
    unfold lx_num
    rw [if_neg (by omega)]
    exact wq_k0
  · skip
    refine wq_aload_n rfl rfl rfl ?_
    refine wq_iload_n rfl rfl (show p < 4294967296 by omega) ?_
    refine wq_iconst rfl rfl ?_
    refine wq_iaddZ rfl (show p < 4294967296 by omega) (by decide) (z := p + 1) (by omega) ?_
    refine wm_virtI (as := [36893488147419103232, p + 1]) rfl rfl (by decide) (Nat.le_of_ble_eq_true rfl) rfl (Nat.le_of_ble_eq_true rfl) rfl (wm_at hT (show p + 1 < 2147483648 by omega) hn) ?_
    refine wq_bipush rfl rfl ?_
    refine wq_ic_ne rfl rfl (lx_at_lt hC _) (by decide) (fun h2 => ?_) (fun h2 => ?_)
    · skip
      refine DX (F 0 2) p _ 1 (by omega) (Nat.le_refl _) (by omega) rfl (by decide) ?_
      unfold lx_num
      rw [if_neg (by omega)]
      exact wq_k0
    · skip
      refine wq_iload_n rfl rfl (show p < 4294967296 by omega) ?_
      refine wq_iconst rfl rfl ?_
      refine wq_iaddZ rfl (show p < 4294967296 by omega) (by decide) (z := p + 2) (by omega) ?_
      refine wq_istore_n rfl (by omega) (Nat.le_of_ble_eq_true rfl) (Or.inr ⟨_, rfl, (wq_notL (show p < 4294967296 by omega))⟩) (L' := [36893488147419103232, p, p + 2, 18446744073709551616, 73786976294838206464, 1, 73786976294838206464]) rfl ?_
      refine wq_iload_n rfl rfl (by omega) ?_
      refine wq_istore rfl (by omega) (Nat.le_of_ble_eq_true rfl) (Or.inr ⟨_, rfl, (wq_notL (by decide))⟩) (L' := [36893488147419103232, p, p + 2, 18446744073709551616, 73786976294838206464, 1, p + 2]) rfl ?_
      have hp1 : p + 1 < F 0 2 := lx_at_in (T := F 1) (by omega)
      refine HX (p + 2) (by omega) (F 0 2) (p + 2) _ (by omega) (Nat.le_refl _) (by omega) rfl ?_
      unfold lx_num
      rw [if_pos ⟨by omega, by omega⟩]
      exact wq_k0
