/-! ===== 58: the reference's text: at, isLetter, isDigit, lineOf, skip (by wip/whole2/law58.py) ===== -/
/-- the byte at a place, behind the end what stands for none -/
def lx_at (T : Nat → Nat) (n j : Nat) : Nat := if j < n then T j else 4294967295
theorem lx_at_lt {T : Nat → Nat} {n : Nat} (hC : ∀ i, i < n → T i < 256) (j : Nat) : lx_at T n j < 4294967296 := by
  unfold lx_at
  by_cases h : j < n
  · rw [if_pos h]
    have := hC j h
    omega
  · rw [if_neg h]
    decide
def lx_letter (c : Nat) : Nat := if (97 ≤ c ∧ c ≤ 122) ∨ (65 ≤ c ∧ c ≤ 90) ∨ c = 95 then 1 else 0
def lx_digit (c : Nat) : Nat := if 48 ≤ c ∧ c ≤ 57 then 1 else 0
/-- the line of a place -/
def lx_lines (T : Nat → Nat) (m p : Nat) : Nat → Nat → Nat → Nat
  | 0, n, _ => n
  | f + 1, n, k => if k < p ∧ k < m then lx_lines T m p f (if T k = 10 then n + 1 else n) (k + 1) else n
theorem lx_lines_s {T : Nat → Nat} {m p f n k : Nat} (h1 : k < p) (h2 : k < m) : lx_lines T m p (f + 1) n k = lx_lines T m p f (if T k = 10 then n + 1 else n) (k + 1) := if_pos ⟨h1, h2⟩
theorem lx_lines_e {T : Nat → Nat} {m p f n k : Nat} (h : ¬ (k < p ∧ k < m)) : lx_lines T m p (f + 1) n k = n := if_neg h
/-- to the line's end -/
def lx_line (T : Nat → Nat) (n : Nat) : Nat → Nat → Nat
  | 0, k => k
  | f + 1, k => if k < n ∧ T k ≠ 10 then lx_line T n f (k + 1) else k
theorem lx_line_s {T : Nat → Nat} {n f k : Nat} (h1 : k < n) (h2 : T k ≠ 10) : lx_line T n (f + 1) k = lx_line T n f (k + 1) := if_pos ⟨h1, h2⟩
theorem lx_line_e {T : Nat → Nat} {n f k : Nat} (h : ¬ (k < n ∧ T k ≠ 10)) : lx_line T n (f + 1) k = k := if_neg h
/-- behind blanks and remarks -/
def lx_skip (T : Nat → Nat) (n : Nat) : Nat → Nat → Nat
  | 0, k => k
  | f + 1, k => if lx_at T n k = 45 ∧ lx_at T n (k + 1) = 45 then lx_skip T n f (lx_line T n n k) else if lx_at T n k = 32 ∨ lx_at T n k = 9 ∨ lx_at T n k = 13 ∨ lx_at T n k = 10 then lx_skip T n f (k + 1) else k
theorem lx_skip_l {T : Nat → Nat} {n f k : Nat} (h1 : lx_at T n k = 45) (h2 : lx_at T n (k + 1) = 45) : lx_skip T n (f + 1) k = lx_skip T n f (lx_line T n n k) := if_pos ⟨h1, h2⟩
theorem lx_skip_b {T : Nat → Nat} {n f k : Nat} (h1 : ¬ (lx_at T n k = 45 ∧ lx_at T n (k + 1) = 45)) (h2 : lx_at T n k = 32 ∨ lx_at T n k = 9 ∨ lx_at T n k = 13 ∨ lx_at T n k = 10) : lx_skip T n (f + 1) k = lx_skip T n f (k + 1) := (if_neg h1).trans (if_pos h2)
theorem lx_skip_e {T : Nat → Nat} {n f k : Nat} (h1 : ¬ (lx_at T n k = 45 ∧ lx_at T n (k + 1) = 45)) (h2 : ¬ (lx_at T n k = 32 ∨ lx_at T n k = 9 ∨ lx_at T n k = 13 ∨ lx_at T n k = 10)) : lx_skip T n (f + 1) k = k := (if_neg h1).trans (if_neg h2)
theorem lx_at_in {T : Nat → Nat} {n k : Nat} (h : lx_at T n k ≠ 4294967295) : k < n := Classical.byContradiction fun q => h (if_neg q)
theorem lx_at_of {T : Nat → Nat} {n k : Nat} (h : k < n) : lx_at T n k = T k := if_pos h
theorem lx_line_ge {T : Nat → Nat} {n : Nat} : ∀ g k : Nat, k ≤ lx_line T n g k
  | 0, k => Nat.le_refl _
  | g + 1, k => by
    by_cases h : k < n ∧ T k ≠ 10
    · rw [lx_line_s h.1 h.2]
      have := lx_line_ge (T := T) (n := n) g (k + 1)
      omega
    · rw [lx_line_e h]
      exact Nat.le_refl _
theorem lx_line_gt {T : Nat → Nat} {n g k : Nat} (h1 : k < n) (h2 : T k ≠ 10) (h3 : 0 < g) : k < lx_line T n g k := by
  obtain ⟨g, rfl⟩ : ∃ g', g = g' + 1 := ⟨g - 1, by omega⟩
  rw [lx_line_s h1 h2]
  exact lx_line_ge g (k + 1)
theorem lx_line_le {T : Nat → Nat} {n : Nat} : ∀ {g k : Nat}, k ≤ n → lx_line T n g k ≤ n
  | 0, _, h => h
  | g + 1, k, h => by
    by_cases q : k < n ∧ T k ≠ 10
    · rw [lx_line_s q.1 q.2]
      exact lx_line_le (by omega)
    · rw [lx_line_e q]
      exact h
theorem wm_at {F : wq_F} (hT : wm_T F) {d j : Nat} (hj : j < 2147483648) (hn : F 0 2 ≤ 6000) : mq (d + 1) 28 [36893488147419103232, j] wm_sh F (wq_k (some (lx_at (F 1) (F 0 2) j)) wm_sh F) := by
  unfold lx_at
  have e : ev_ent [36893488147419103232, j] = [36893488147419103232, j] := by
    show 36893488147419103232 :: ev_ent [j] = _
    rw [wm_entI (show j < 4294967296 by omega)]
    rfl
  refine mq_of (maxL := 2) (rt := (some .int)) (code := (ev_un al_mX12_at.2.2.2.2)) (L := [36893488147419103232, j]) rfl (by rw [e]; exact Nat.le_of_ble_eq_true rfl) (by rw [e]; rfl) ?_
  refine wq_iload_n rfl rfl (show j < 4294967296 by omega) ?_
  refine wq_aload_n rfl rfl rfl ?_
  refine wm_getI rfl (by decide) ?_
  refine wq_ic_ge rfl rfl (show j < 4294967296 by omega) (hT.i 2 rfl) (fun h1 => ?_) (fun h1 => ?_)
  · skip
    unfold ev_s at h1
    refine wq_iconst rfl rfl ?_
    refine wq_iret rfl (by decide) rfl ?_
    exact wq_k1 (by rw [if_neg (by omega)])
  · skip
    unfold ev_s at h1
    refine wq_aload_n rfl rfl rfl ?_
    refine wm_getR (v := 36893488147419103233) rfl (by decide) (hT.r 1 0 rfl) ?_
    refine wq_iload_n rfl rfl (show j < 4294967296 by omega) ?_
    refine wq_iaload (q := 1) (n := 6000) rfl rfl (by decide) (by omega) (by decide) ?_
    refine wq_goto rfl rfl ?_
    refine wq_iret rfl (hT.ai (k := 1) rfl (by omega)) rfl ?_
    exact wq_k1 (by rw [if_pos (by omega)])
theorem wm_isLetter {F : wq_F} {d c : Nat} (hc : c < 4294967296) : mq (d + 1) 197 [c] wm_sh F (wq_k (some (lx_letter c)) wm_sh F) := by
  have e : ev_ent [c] = [c] := by
    rw [wm_entI hc]
    rfl
  refine mq_of (maxL := 1) (rt := (some .boolean)) (code := (ev_un al_mX12_isLetter.2.2.2.2)) (L := [c]) rfl (by rw [e]; exact Nat.le_of_ble_eq_true rfl) (by rw [e]; rfl) ?_
  refine wq_iload_n rfl rfl hc ?_
  refine wq_bipush rfl rfl ?_
  refine wq_ic_lt rfl rfl hc (by decide) (fun h1 => ?_) (fun h1 => ?_)
  · skip
    unfold ev_s at h1
    refine wq_iload_n rfl rfl hc ?_
    refine wq_bipush rfl rfl ?_
    refine wq_ic_lt rfl rfl hc (by decide) (fun h2 => ?_) (fun h2 => ?_)
    · skip
      unfold ev_s at h2
      refine wq_iload_n rfl rfl hc ?_
      refine wq_bipush rfl rfl ?_
      refine wq_ic_ne rfl rfl hc (by decide) (fun h3 => ?_) (fun h3 => ?_)
      · skip
        refine wq_iconst rfl rfl ?_
        refine wq_iret rfl (by decide) (by decide) ?_
        exact wq_k1 (by unfold lx_letter; rw [if_neg (by omega)])
      · skip
        refine wq_iconst rfl rfl ?_
        refine wq_goto rfl rfl ?_
        refine wq_iret rfl (by decide) (by decide) ?_
        exact wq_k1 (by unfold lx_letter; rw [if_pos (by omega)])
    · skip
      unfold ev_s at h2
      refine wq_iload_n rfl rfl hc ?_
      refine wq_bipush rfl rfl ?_
      refine wq_ic_le rfl rfl hc (by decide) (fun h4 => ?_) (fun h4 => ?_)
      · skip
        unfold ev_s at h4
        refine wq_iconst rfl rfl ?_
        refine wq_goto rfl rfl ?_
        refine wq_iret rfl (by decide) (by decide) ?_
        exact wq_k1 (by unfold lx_letter; rw [if_pos (by omega)])
      · skip
        unfold ev_s at h4
        refine wq_iload_n rfl rfl hc ?_
        refine wq_bipush rfl rfl ?_
        refine wq_ic_ne rfl rfl hc (by decide) (fun h5 => ?_) (fun h5 => ?_)
        · skip
          refine wq_iconst rfl rfl ?_
          refine wq_iret rfl (by decide) (by decide) ?_
          exact wq_k1 (by unfold lx_letter; rw [if_neg (by omega)])
        · skip
          refine wq_iconst rfl rfl ?_
          refine wq_goto rfl rfl ?_
          refine wq_iret rfl (by decide) (by decide) ?_
          exact wq_k1 (by unfold lx_letter; rw [if_pos (by omega)])
  · skip
    unfold ev_s at h1
    refine wq_iload_n rfl rfl hc ?_
    refine wq_bipush rfl rfl ?_
    refine wq_ic_le rfl rfl hc (by decide) (fun h6 => ?_) (fun h6 => ?_)
    · skip
      unfold ev_s at h6
      refine wq_iconst rfl rfl ?_
      refine wq_goto rfl rfl ?_
      refine wq_iret rfl (by decide) (by decide) ?_
      exact wq_k1 (by unfold lx_letter; rw [if_pos (by omega)])
    · skip
      unfold ev_s at h6
      refine wq_iload_n rfl rfl hc ?_
      refine wq_bipush rfl rfl ?_
      refine wq_ic_lt rfl rfl hc (by decide) (fun h7 => ?_) (fun h7 => ?_)
      · skip
        unfold ev_s at h7
        refine wq_iload_n rfl rfl hc ?_
        refine wq_bipush rfl rfl ?_
        refine wq_ic_ne rfl rfl hc (by decide) (fun h8 => ?_) (fun h8 => ?_)
        · skip
          refine wq_iconst rfl rfl ?_
          refine wq_iret rfl (by decide) (by decide) ?_
          exact wq_k1 (by unfold lx_letter; rw [if_neg (by omega)])
        · skip
          refine wq_iconst rfl rfl ?_
          refine wq_goto rfl rfl ?_
          refine wq_iret rfl (by decide) (by decide) ?_
          exact wq_k1 (by unfold lx_letter; rw [if_pos (by omega)])
      · skip
        unfold ev_s at h7
        refine wq_iload_n rfl rfl hc ?_
        refine wq_bipush rfl rfl ?_
        refine wq_ic_le rfl rfl hc (by decide) (fun h9 => ?_) (fun h9 => ?_)
        · skip
          unfold ev_s at h9
          refine wq_iconst rfl rfl ?_
          refine wq_goto rfl rfl ?_
          refine wq_iret rfl (by decide) (by decide) ?_
          exact wq_k1 (by unfold lx_letter; rw [if_pos (by omega)])
        · skip
          unfold ev_s at h9
          refine wq_iload_n rfl rfl hc ?_
          refine wq_bipush rfl rfl ?_
          refine wq_ic_ne rfl rfl hc (by decide) (fun h10 => ?_) (fun h10 => ?_)
          · skip
            refine wq_iconst rfl rfl ?_
            refine wq_iret rfl (by decide) (by decide) ?_
            exact wq_k1 (by unfold lx_letter; rw [if_neg (by omega)])
          · skip
            refine wq_iconst rfl rfl ?_
            refine wq_goto rfl rfl ?_
            refine wq_iret rfl (by decide) (by decide) ?_
            exact wq_k1 (by unfold lx_letter; rw [if_pos (by omega)])
theorem wm_isDigit {F : wq_F} {d c : Nat} (hc : c < 4294967296) : mq (d + 1) 198 [c] wm_sh F (wq_k (some (lx_digit c)) wm_sh F) := by
  have e : ev_ent [c] = [c] := by
    rw [wm_entI hc]
    rfl
  refine mq_of (maxL := 1) (rt := (some .boolean)) (code := (ev_un al_mX12_isDigit.2.2.2.2)) (L := [c]) rfl (by rw [e]; exact Nat.le_of_ble_eq_true rfl) (by rw [e]; rfl) ?_
  refine wq_iload_n rfl rfl hc ?_
  refine wq_bipush rfl rfl ?_
  refine wq_ic_lt rfl rfl hc (by decide) (fun h1 => ?_) (fun h1 => ?_)
  · skip
    unfold ev_s at h1
    refine wq_iconst rfl rfl ?_
    refine wq_iret rfl (by decide) (by decide) ?_
    exact wq_k1 (by unfold lx_digit; rw [if_neg (by omega)])
  · skip
    unfold ev_s at h1
    refine wq_iload_n rfl rfl hc ?_
    refine wq_bipush rfl rfl ?_
    refine wq_ic_gt rfl rfl hc (by decide) (fun h2 => ?_) (fun h2 => ?_)
    · skip
      unfold ev_s at h2
      refine wq_iconst rfl rfl ?_
      refine wq_iret rfl (by decide) (by decide) ?_
      exact wq_k1 (by unfold lx_digit; rw [if_neg (by omega)])
    · skip
      unfold ev_s at h2
      refine wq_iconst rfl rfl ?_
      refine wq_goto rfl rfl ?_
      refine wq_iret rfl (by decide) (by decide) ?_
      exact wq_k1 (by unfold lx_digit; rw [if_pos (by omega)])
theorem wm_lineOf {F : wq_F} (hT : wm_T F) (hn : F 0 2 ≤ 6000) {d p : Nat} (hp : p < 2147483648) : mq (d + 1) 196 [36893488147419103232, p] wm_sh F (wq_k (some (lx_lines (F 1) (F 0 2) p (F 0 2) 1 0)) wm_sh F) := by
  have H : ∀ (f n k : Nat), F 0 2 ≤ f + k → k ≤ F 0 2 → n ≤ k + 1 → ∀ {K : Option Nat → List (Nat × Nat) → wq_F → Nat → Nat → Prop}, K (some (lx_lines (F 1) (F 0 2) p f n k)) wm_sh F 0 0 → wq (wq_cf d) (ev_un al_mX12_lineOf.2.2.2.2) (some .int) 4 [36893488147419103232, p, n, k] [] wm_sh F 0 0 K := by
    intro f
    induction f with
    | zero =>
      intro n k h1 h2 h3 K hK
      refine wq_iload_n rfl rfl (show k < 4294967296 by omega) ?_
      refine wq_iload_n rfl rfl (show p < 4294967296 by omega) ?_
      refine wq_ic_ge rfl rfl (show k < 4294967296 by omega) (show p < 4294967296 by omega) (fun h1 => ?_) (fun h1 => ?_)
      · skip
        unfold ev_s at h1
        refine wq_iload_n rfl rfl (show n < 4294967296 by omega) ?_
        exact wq_iret rfl (show n < 4294967296 by omega) rfl hK
      · skip
        unfold ev_s at h1
        refine wq_iload_n rfl rfl (show k < 4294967296 by omega) ?_
        refine wq_aload_n rfl rfl rfl ?_
        refine wm_getI rfl (by decide) ?_
        refine wq_ic_ge rfl rfl (show k < 4294967296 by omega) (hT.i 2 rfl) (fun h2 => ?_) (fun h2 => ?_)
        · skip
          unfold ev_s at h2
          refine wq_iload_n rfl rfl (show n < 4294967296 by omega) ?_
          exact wq_iret rfl (show n < 4294967296 by omega) rfl hK
        · skip
          unfold ev_s at h2
          exact absurd h2 (by omega)
    | succ f ih =>
      intro n k h1 h2 h3 K hK
      refine wq_iload_n rfl rfl (show k < 4294967296 by omega) ?_
      refine wq_iload_n rfl rfl (show p < 4294967296 by omega) ?_
      refine wq_ic_ge rfl rfl (show k < 4294967296 by omega) (show p < 4294967296 by omega) (fun h1 => ?_) (fun h1 => ?_)
      · skip
        unfold ev_s at h1
        refine wq_iload_n rfl rfl (show n < 4294967296 by omega) ?_
        rw [lx_lines_e (by omega)] at hK
        exact wq_iret rfl (show n < 4294967296 by omega) rfl hK
      · skip
        unfold ev_s at h1
        refine wq_iload_n rfl rfl (show k < 4294967296 by omega) ?_
        refine wq_aload_n rfl rfl rfl ?_
        refine wm_getI rfl (by decide) ?_
        refine wq_ic_ge rfl rfl (show k < 4294967296 by omega) (hT.i 2 rfl) (fun h2 => ?_) (fun h2 => ?_)
        · skip
          unfold ev_s at h2
          refine wq_iload_n rfl rfl (show n < 4294967296 by omega) ?_
          rw [lx_lines_e (by omega)] at hK
          exact wq_iret rfl (show n < 4294967296 by omega) rfl hK
        · skip
          unfold ev_s at h2
          refine wq_aload_n rfl rfl rfl ?_
          refine wm_getR (v := 36893488147419103233) rfl (by decide) (hT.r 1 0 rfl) ?_
          refine wq_iload_n rfl rfl (show k < 4294967296 by omega) ?_
          refine wq_iaload (q := 1) (n := 6000) rfl rfl (by decide) (by omega) (by decide) ?_
          refine wq_bipush rfl rfl ?_
          refine wq_ic_ne rfl rfl (hT.ai (k := 1) rfl (by omega)) (by decide) (fun h3 => ?_) (fun h3 => ?_)
          · skip
            refine wq_iload_n rfl rfl (show n < 4294967296 by omega) ?_
            refine wq_istore_n rfl (show n < 4294967296 by omega) (Nat.le_of_ble_eq_true rfl) (Or.inr ⟨_, rfl, (wq_notL (show p < 4294967296 by omega))⟩) (L' := [36893488147419103232, p, n, k]) rfl ?_
            refine wq_iincZ rfl rfl (show k < 4294967296 by omega) (Or.inr ⟨_, rfl, (wq_notL (show n < 4294967296 by omega))⟩) rfl (z := k + 1) (by omega) (L' := [36893488147419103232, p, n, k + 1]) rfl ?_
            refine wq_goto rfl rfl ?_
            refine ih n (k + 1) (by omega) (by omega) (by omega) (K := K) ?_
            rw [lx_lines_s (by omega) (by omega)] at hK
            rw [if_neg (by assumption)] at hK
            exact hK
          · skip
            refine wq_iload_n rfl rfl (show n < 4294967296 by omega) ?_
            refine wq_iconst rfl rfl ?_
            refine wq_iaddZ rfl (show n < 4294967296 by omega) (by decide) (z := n + 1) (by omega) ?_
            refine wq_goto rfl rfl ?_
            refine wq_istore_n rfl (by omega) (Nat.le_of_ble_eq_true rfl) (Or.inr ⟨_, rfl, (wq_notL (show p < 4294967296 by omega))⟩) (L' := [36893488147419103232, p, n + 1, k]) rfl ?_
            refine wq_iincZ rfl rfl (show k < 4294967296 by omega) (Or.inr ⟨_, rfl, (wq_notL (by omega))⟩) rfl (z := k + 1) (by omega) (L' := [36893488147419103232, p, n + 1, k + 1]) rfl ?_
            refine wq_goto rfl rfl ?_
            refine ih (n + 1) (k + 1) (by omega) (by omega) (by omega) (K := K) ?_
            rw [lx_lines_s (by omega) (by omega)] at hK
            rw [if_pos (by assumption)] at hK
            exact hK
  have e : ev_ent [36893488147419103232, p] = [36893488147419103232, p] := by
    show 36893488147419103232 :: ev_ent [p] = _
    rw [wm_entI (show p < 4294967296 by omega)]
    rfl
  refine mq_of (maxL := 4) (rt := (some .int)) (code := (ev_un al_mX12_lineOf.2.2.2.2)) (L := [36893488147419103232, p, 73786976294838206464, 73786976294838206464]) rfl (by rw [e]; exact Nat.le_of_ble_eq_true rfl) (by rw [e]; rfl) ?_
  refine wq_iconst rfl rfl ?_
  refine wq_istore_n rfl (by decide) (Nat.le_of_ble_eq_true rfl) (Or.inr ⟨_, rfl, (wq_notL (show p < 4294967296 by omega))⟩) (L' := [36893488147419103232, p, 1, 73786976294838206464]) rfl ?_
  refine wq_iconst rfl rfl ?_
  refine wq_istore_n rfl (by decide) (Nat.le_of_ble_eq_true rfl) (Or.inr ⟨_, rfl, (wq_notL (by decide))⟩) (L' := [36893488147419103232, p, 1, 0]) rfl ?_
  exact H _ 1 0 (by omega) (by omega) (by omega) wq_k0
theorem wm_skip {F : wq_F} (hT : wm_T F) (hn : F 0 2 ≤ 6000) (hC : ∀ i, i < F 0 2 → F 1 i < 256) {d p : Nat} (hp : p ≤ F 0 2) : mq (d + 2) 27 [36893488147419103232, p] wm_sh F (wq_k (some (lx_skip (F 1) (F 0 2) (F 0 2 + 1) p)) wm_sh F) := by
  have line : ∀ (g k c : Nat), c < 4294967296 → F 0 2 ≤ g + k → k ≤ F 0 2 → ∀ {K : Option Nat → List (Nat × Nat) → wq_F → Nat → Nat → Prop}, wq (wq_cf (d + 1)) (ev_un al_mX12_skip.2.2.2.2) (some .int) 4 [36893488147419103232, p, (lx_line (F 1) (F 0 2) g k), 1, c] [] wm_sh F 0 0 K → wq (wq_cf (d + 1)) (ev_un al_mX12_skip.2.2.2.2) (some .int) 70 [36893488147419103232, p, k, 1, c] [] wm_sh F 0 0 K := by
    intro g
    induction g with
    | zero =>
      intro k c hc h1 h2 K hK
      refine wq_iload_n rfl rfl (show k < 4294967296 by omega) ?_
      refine wq_aload_n rfl rfl rfl ?_
      refine wm_getI rfl (by decide) ?_
      refine wq_ic_ge rfl rfl (show k < 4294967296 by omega) (hT.i 2 rfl) (fun h1 => ?_) (fun h1 => ?_)
      · skip
        unfold ev_s at h1
        refine wq_goto rfl rfl ?_
        exact hK
      · skip
        unfold ev_s at h1
        exact absurd h1 (by omega)
    | succ g ih =>
      intro k c hc h1 h2 K hK
      refine wq_iload_n rfl rfl (show k < 4294967296 by omega) ?_
      refine wq_aload_n rfl rfl rfl ?_
      refine wm_getI rfl (by decide) ?_
      refine wq_ic_ge rfl rfl (show k < 4294967296 by omega) (hT.i 2 rfl) (fun h1 => ?_) (fun h1 => ?_)
      · skip
        unfold ev_s at h1
        refine wq_goto rfl rfl ?_
        rw [lx_line_e (by omega)] at hK
        exact hK
      · skip
        unfold ev_s at h1
        refine wq_aload_n rfl rfl rfl ?_
        refine wm_getR (v := 36893488147419103233) rfl (by decide) (hT.r 1 0 rfl) ?_
        refine wq_iload_n rfl rfl (show k < 4294967296 by omega) ?_
        refine wq_iaload (q := 1) (n := 6000) rfl rfl (by decide) (by omega) (by decide) ?_
        refine wq_bipush rfl rfl ?_
        refine wq_ic_eq rfl rfl (hT.ai (k := 1) rfl (by omega)) (by decide) (fun h2 => ?_) (fun h2 => ?_)
        · skip
          refine wq_goto rfl rfl ?_
          rw [lx_line_e (by omega)] at hK
          exact hK
        · skip
          refine wq_iincZ rfl rfl (show k < 4294967296 by omega) (Or.inr ⟨_, rfl, (wq_notL (show p < 4294967296 by omega))⟩) rfl (z := k + 1) (by omega) (L' := [36893488147419103232, p, k + 1, 1, c]) rfl ?_
          refine wq_goto rfl rfl ?_
          rw [lx_line_s (by omega) (by assumption)] at hK
          exact ih (k + 1) c hc (by omega) (by omega) hK
  have body : ∀ (f k c : Nat), ev_isL c = false → F 0 2 < f + k → k ≤ F 0 2 → ∀ {K : Option Nat → List (Nat × Nat) → wq_F → Nat → Nat → Prop}, K (some (lx_skip (F 1) (F 0 2) f k)) wm_sh F 0 0 → wq (wq_cf (d + 1)) (ev_un al_mX12_skip.2.2.2.2) (some .int) 4 [36893488147419103232, p, k, 1, c] [] wm_sh F 0 0 K := by
    intro f
    induction f with
    | zero =>
      intro k c hc h1 h2 K hK
      exact absurd h1 (by omega)
    | succ f ih =>
      intro k c hc h1 h2 K hK
      refine wq_iload_n rfl rfl (by decide) ?_
      refine wq_if_eq rfl rfl (by decide) (fun h1 => ?_) (fun h1 => ?_)
      · skip
        exact absurd h1 (by decide)
      · skip
        refine wq_aload_n rfl rfl rfl ?_
        refine wq_iload_n rfl rfl (show k < 4294967296 by omega) ?_
        refine wm_virtI (as := [36893488147419103232, k]) rfl rfl (by decide) (Nat.le_of_ble_eq_true rfl) rfl (Nat.le_of_ble_eq_true rfl) rfl (wm_at hT (show k < 2147483648 by omega) hn) ?_
        refine wq_istore rfl (lx_at_lt hC _) (Nat.le_of_ble_eq_true rfl) (Or.inr ⟨_, rfl, (wq_notL (by decide))⟩) (L' := [36893488147419103232, p, k, 1, lx_at (F 1) (F 0 2) k]) rfl ?_
        refine wq_iload rfl rfl (lx_at_lt hC _) ?_
        refine wq_bipush rfl rfl ?_
        refine wq_ic_eq rfl rfl (lx_at_lt hC _) (by decide) (fun h2 => ?_) (fun h2 => ?_)
        · skip
          refine wq_iconst rfl rfl ?_
          refine wq_goto rfl rfl ?_
          refine wq_istore_n rfl (by decide) (Nat.le_of_ble_eq_true rfl) (Or.inr ⟨_, rfl, (wq_notL (show k < 4294967296 by omega))⟩) (L' := [36893488147419103232, p, k, 1, lx_at (F 1) (F 0 2) k]) rfl ?_
          refine wq_iload rfl rfl (lx_at_lt hC _) ?_
          refine wq_bipush rfl rfl ?_
          refine wq_ic_ne rfl rfl (lx_at_lt hC _) (by decide) (fun h3 => ?_) (fun h3 => ?_)
          · skip
            refine wq_iload_n rfl rfl (by decide) ?_
            refine wq_if_eq rfl rfl (by decide) (fun h4 => ?_) (fun h4 => ?_)
            · skip
              exact absurd h4 (by decide)
            · skip
              refine wq_iincZ rfl rfl (show k < 4294967296 by omega) (Or.inr ⟨_, rfl, (wq_notL (show p < 4294967296 by omega))⟩) rfl (z := k + 1) (by omega) (L' := [36893488147419103232, p, k + 1, 1, lx_at (F 1) (F 0 2) k]) rfl ?_
              refine wq_goto rfl rfl ?_
              have hkn : k < F 0 2 := lx_at_in (T := F 1) (by omega)
              rw [lx_skip_b (by omega) (by omega)] at hK
              exact ih (k + 1) _ (wq_notL (lx_at_lt hC _)) (by omega) (by omega) hK
          · skip
            exact absurd h3 (by omega)
        · skip
          refine wq_iload rfl rfl (lx_at_lt hC _) ?_
          refine wq_bipush rfl rfl ?_
          refine wq_ic_eq rfl rfl (lx_at_lt hC _) (by decide) (fun h5 => ?_) (fun h5 => ?_)
          · skip
            refine wq_iconst rfl rfl ?_
            refine wq_goto rfl rfl ?_
            refine wq_istore_n rfl (by decide) (Nat.le_of_ble_eq_true rfl) (Or.inr ⟨_, rfl, (wq_notL (show k < 4294967296 by omega))⟩) (L' := [36893488147419103232, p, k, 1, lx_at (F 1) (F 0 2) k]) rfl ?_
            refine wq_iload rfl rfl (lx_at_lt hC _) ?_
            refine wq_bipush rfl rfl ?_
            refine wq_ic_ne rfl rfl (lx_at_lt hC _) (by decide) (fun h6 => ?_) (fun h6 => ?_)
            · skip
              refine wq_iload_n rfl rfl (by decide) ?_
              refine wq_if_eq rfl rfl (by decide) (fun h7 => ?_) (fun h7 => ?_)
              · skip
                exact absurd h7 (by decide)
              · skip
                refine wq_iincZ rfl rfl (show k < 4294967296 by omega) (Or.inr ⟨_, rfl, (wq_notL (show p < 4294967296 by omega))⟩) rfl (z := k + 1) (by omega) (L' := [36893488147419103232, p, k + 1, 1, lx_at (F 1) (F 0 2) k]) rfl ?_
                refine wq_goto rfl rfl ?_
                have hkn : k < F 0 2 := lx_at_in (T := F 1) (by omega)
                rw [lx_skip_b (by omega) (by omega)] at hK
                exact ih (k + 1) _ (wq_notL (lx_at_lt hC _)) (by omega) (by omega) hK
            · skip
              exact absurd h6 (by omega)
          · skip
            refine wq_iload rfl rfl (lx_at_lt hC _) ?_
            refine wq_bipush rfl rfl ?_
            refine wq_ic_eq rfl rfl (lx_at_lt hC _) (by decide) (fun h8 => ?_) (fun h8 => ?_)
            · skip
              refine wq_iconst rfl rfl ?_
              refine wq_goto rfl rfl ?_
              refine wq_istore_n rfl (by decide) (Nat.le_of_ble_eq_true rfl) (Or.inr ⟨_, rfl, (wq_notL (show k < 4294967296 by omega))⟩) (L' := [36893488147419103232, p, k, 1, lx_at (F 1) (F 0 2) k]) rfl ?_
              refine wq_iload rfl rfl (lx_at_lt hC _) ?_
              refine wq_bipush rfl rfl ?_
              refine wq_ic_ne rfl rfl (lx_at_lt hC _) (by decide) (fun h9 => ?_) (fun h9 => ?_)
              · skip
                refine wq_iload_n rfl rfl (by decide) ?_
                refine wq_if_eq rfl rfl (by decide) (fun h10 => ?_) (fun h10 => ?_)
                · skip
                  exact absurd h10 (by decide)
                · skip
                  refine wq_iincZ rfl rfl (show k < 4294967296 by omega) (Or.inr ⟨_, rfl, (wq_notL (show p < 4294967296 by omega))⟩) rfl (z := k + 1) (by omega) (L' := [36893488147419103232, p, k + 1, 1, lx_at (F 1) (F 0 2) k]) rfl ?_
                  refine wq_goto rfl rfl ?_
                  have hkn : k < F 0 2 := lx_at_in (T := F 1) (by omega)
                  rw [lx_skip_b (by omega) (by omega)] at hK
                  exact ih (k + 1) _ (wq_notL (lx_at_lt hC _)) (by omega) (by omega) hK
              · skip
                exact absurd h9 (by omega)
            · skip
              refine wq_iload rfl rfl (lx_at_lt hC _) ?_
              refine wq_bipush rfl rfl ?_
              refine wq_ic_ne rfl rfl (lx_at_lt hC _) (by decide) (fun h11 => ?_) (fun h11 => ?_)
              · skip
                refine wq_iconst rfl rfl ?_
                refine wq_istore_n rfl (by decide) (Nat.le_of_ble_eq_true rfl) (Or.inr ⟨_, rfl, (wq_notL (show k < 4294967296 by omega))⟩) (L' := [36893488147419103232, p, k, 0, lx_at (F 1) (F 0 2) k]) rfl ?_
                refine wq_iload rfl rfl (lx_at_lt hC _) ?_
                refine wq_bipush rfl rfl ?_
                refine wq_ic_ne rfl rfl (lx_at_lt hC _) (by decide) (fun h12 => ?_) (fun h12 => ?_)
                · skip
                  refine wq_iload_n rfl rfl (by decide) ?_
                  refine wq_if_eq rfl rfl (by decide) (fun h13 => ?_) (fun h13 => ?_)
                  · skip
                    refine wq_goto rfl rfl ?_
                    refine wq_iload_n rfl rfl (by decide) ?_
                    refine wq_if_eq rfl rfl (by decide) (fun h14 => ?_) (fun h14 => ?_)
                    · skip
                      refine wq_iload_n rfl rfl (show k < 4294967296 by omega) ?_
                      rw [lx_skip_e (by omega) (by omega)] at hK
                      exact wq_iret rfl (show k < 4294967296 by omega) rfl hK
                    · skip
                      exact absurd rfl h14
                  · skip
                    exact absurd rfl h13
                · skip
                  refine wq_aload_n rfl rfl rfl ?_
                  refine wq_iload_n rfl rfl (show k < 4294967296 by omega) ?_
                  refine wq_iconst rfl rfl ?_
                  refine wq_iaddZ rfl (show k < 4294967296 by omega) (by decide) (z := k + 1) (by omega) ?_
                  refine wm_virtI (as := [36893488147419103232, k + 1]) rfl rfl (by decide) (Nat.le_of_ble_eq_true rfl) rfl (Nat.le_of_ble_eq_true rfl) rfl (wm_at hT (show k + 1 < 2147483648 by omega) hn) ?_
                  refine wq_bipush rfl rfl ?_
                  refine wq_ic_ne rfl rfl (lx_at_lt hC _) (by decide) (fun h15 => ?_) (fun h15 => ?_)
                  · skip
                    refine wq_iload_n rfl rfl (by decide) ?_
                    refine wq_if_eq rfl rfl (by decide) (fun h16 => ?_) (fun h16 => ?_)
                    · skip
                      refine wq_goto rfl rfl ?_
                      refine wq_iload_n rfl rfl (by decide) ?_
                      refine wq_if_eq rfl rfl (by decide) (fun h17 => ?_) (fun h17 => ?_)
                      · skip
                        refine wq_iload_n rfl rfl (show k < 4294967296 by omega) ?_
                        rw [lx_skip_e (by omega) (by omega)] at hK
                        exact wq_iret rfl (show k < 4294967296 by omega) rfl hK
                      · skip
                        exact absurd rfl h17
                    · skip
                      exact absurd rfl h16
                  · skip
                    refine wq_iconst rfl rfl ?_
                    refine wq_istore_n rfl (by decide) (Nat.le_of_ble_eq_true rfl) (Or.inr ⟨_, rfl, (wq_notL (show k < 4294967296 by omega))⟩) (L' := [36893488147419103232, p, k, 1, lx_at (F 1) (F 0 2) k]) rfl ?_
                    have hkn : k < F 0 2 := lx_at_in (T := F 1) (by omega)
                    have hk45 : F 1 k ≠ 10 := by
                      have := lx_at_of (T := F 1) hkn
                      omega
                    have g1 := lx_line_gt (T := F 1) (g := F 0 2) hkn hk45 (by omega)
                    have g2 := lx_line_le (T := F 1) (g := F 0 2) (k := k) (n := F 0 2) (by omega)
                    rw [lx_skip_l (by omega) (by omega)] at hK
                    exact line (F 0 2) k _ (lx_at_lt hC _) (by omega) (by omega) (ih _ _ (wq_notL (lx_at_lt hC _)) (by omega) (by omega) hK)
              · skip
                refine wq_iconst rfl rfl ?_
                refine wq_goto rfl rfl ?_
                refine wq_istore_n rfl (by decide) (Nat.le_of_ble_eq_true rfl) (Or.inr ⟨_, rfl, (wq_notL (show k < 4294967296 by omega))⟩) (L' := [36893488147419103232, p, k, 1, lx_at (F 1) (F 0 2) k]) rfl ?_
                refine wq_iload rfl rfl (lx_at_lt hC _) ?_
                refine wq_bipush rfl rfl ?_
                refine wq_ic_ne rfl rfl (lx_at_lt hC _) (by decide) (fun h18 => ?_) (fun h18 => ?_)
                · skip
                  refine wq_iload_n rfl rfl (by decide) ?_
                  refine wq_if_eq rfl rfl (by decide) (fun h19 => ?_) (fun h19 => ?_)
                  · skip
                    exact absurd h19 (by decide)
                  · skip
                    refine wq_iincZ rfl rfl (show k < 4294967296 by omega) (Or.inr ⟨_, rfl, (wq_notL (show p < 4294967296 by omega))⟩) rfl (z := k + 1) (by omega) (L' := [36893488147419103232, p, k + 1, 1, lx_at (F 1) (F 0 2) k]) rfl ?_
                    refine wq_goto rfl rfl ?_
                    have hkn : k < F 0 2 := lx_at_in (T := F 1) (by omega)
                    rw [lx_skip_b (by omega) (by omega)] at hK
                    exact ih (k + 1) _ (wq_notL (lx_at_lt hC _)) (by omega) (by omega) hK
                · skip
                  exact absurd h18 (by omega)
  have e : ev_ent [36893488147419103232, p] = [36893488147419103232, p] := by
    show 36893488147419103232 :: ev_ent [p] = _
    rw [wm_entI (show p < 4294967296 by omega)]
    rfl
  refine mq_of (maxL := 5) (rt := (some .int)) (code := (ev_un al_mX12_skip.2.2.2.2)) (L := [36893488147419103232, p, 73786976294838206464, 73786976294838206464, 73786976294838206464]) rfl (by rw [e]; exact Nat.le_of_ble_eq_true rfl) (by rw [e]; rfl) ?_
  refine wq_iload_n rfl rfl (show p < 4294967296 by omega) ?_
  refine wq_istore_n rfl (show p < 4294967296 by omega) (Nat.le_of_ble_eq_true rfl) (Or.inr ⟨_, rfl, (wq_notL (show p < 4294967296 by omega))⟩) (L' := [36893488147419103232, p, p, 73786976294838206464, 73786976294838206464]) rfl ?_
  refine wq_iconst rfl rfl ?_
  refine wq_istore_n rfl (by decide) (Nat.le_of_ble_eq_true rfl) (Or.inr ⟨_, rfl, (wq_notL (show p < 4294967296 by omega))⟩) (L' := [36893488147419103232, p, p, 1, 73786976294838206464]) rfl ?_
  exact body _ p _ rfl (by omega) (by omega) wq_k0
