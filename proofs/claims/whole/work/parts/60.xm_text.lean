/-! ===== 60: the class's text: isLetter, isDigit, byteAt, behindBlanks (by wip/whole2/law60.py) ===== -/
theorem xx_ch {F : wq_F} (hT : xm_T F) {k : Nat} (h : k < 6000) : F 1 k < 4294967296 := hT.ab (k := 1) rfl h
theorem xx_at_lt {F : wq_F} (hT : xm_T F) (j : Nat) (hn : F 57 2 ≤ 6000) : lx_at (F 1) (F 57 2) j < 4294967296 := by
  unfold lx_at
  by_cases h : j < F 57 2
  · rw [if_pos h]
    exact xx_ch hT (by omega)
  · rw [if_neg h]
    decide
/-- skipping sees a text's bytes only as far as they are blanks, line ends or the remark's sign: signed bytes skip alike -/
theorem lx_skip_b8 {T T' : Nat → Nat} {n : Nat} (h : ∀ i, i < n → T' i = ev_b8 (T i) ∧ T i < 256) : ∀ f k, lx_skip T' n f k = lx_skip T n f k := by
  have hc : ∀ i, i < n → ∀ z, z < 128 → (T' i = z ↔ T i = z) := by
    intro i hi z hz
    obtain ⟨h1, h2⟩ := h i hi
    rw [h1]
    unfold ev_b8
    cases hq : (T i % 256).blt 128
    · have := wq_bltF hq
      simp only [cond_false]
      omega
    · have := Nat.blt_eq.mp hq
      simp only [cond_true]
      omega
  have ha : ∀ j z, z < 128 → (lx_at T' n j = z ↔ lx_at T n j = z) := by
    intro j z hz
    unfold lx_at
    by_cases q : j < n
    · rw [if_pos q, if_pos q]
      exact hc j q z hz
    · rw [if_neg q, if_neg q]
  have hl : ∀ g k, lx_line T' n g k = lx_line T n g k := by
    intro g
    induction g with
    | zero => intro k; rfl
    | succ g ih =>
      intro k
      by_cases q : k < n ∧ T k ≠ 10
      · rw [lx_line_s q.1 q.2, lx_line_s q.1 (fun e => q.2 ((hc k q.1 10 (by decide)).mp e)), ih]
      · rw [lx_line_e q, lx_line_e (fun e => q ⟨e.1, fun e2 => e.2 ((hc k e.1 10 (by decide)).mpr e2)⟩)]
  intro f
  induction f with
  | zero => intro k; rfl
  | succ f ih =>
    intro k
    have a1 := ha k 45 (by decide)
    have a2 := ha (k + 1) 45 (by decide)
    have a3 := ha k 32 (by decide)
    have a4 := ha k 9 (by decide)
    have a5 := ha k 13 (by decide)
    have a6 := ha k 10 (by decide)
    by_cases q : lx_at T n k = 45 ∧ lx_at T n (k + 1) = 45
    · rw [lx_skip_l q.1 q.2, lx_skip_l (a1.mpr q.1) (a2.mpr q.2), hl, ih]
    · by_cases q2 : lx_at T n k = 32 ∨ lx_at T n k = 9 ∨ lx_at T n k = 13 ∨ lx_at T n k = 10
      · rw [lx_skip_b q q2, lx_skip_b (by rw [a1, a2]; exact q) (by rw [a3, a4, a5, a6]; exact q2), ih]
      · rw [lx_skip_e q q2, lx_skip_e (by rw [a1, a2]; exact q) (by rw [a3, a4, a5, a6]; exact q2)]
theorem xm_isLetter {F : wq_F} {d c : Nat} (hc : c < 4294967296) : mq (d + 1) 188 [c] xm_sh F (wq_k (some (lx_letter c)) xm_sh F) := by
  have e : ev_ent [c] = [c] := by
    rw [wm_entI hc]
    rfl
  refine mq_of (maxL := 1) (rt := (some .boolean)) (code := (ev_un al_mX10_isLetter.2.2.2.2)) (L := [c]) rfl (by rw [e]; exact Nat.le_of_ble_eq_true rfl) (by rw [e]; rfl) ?_
  refine wq_iload_n rfl rfl hc ?_
  refine wq_bipush rfl rfl ?_
  refine wq_ic_lt rfl rfl hc (by decide) (fun h1 => ?_) (fun h1 => ?_)
  · skip
    unfold ev_s at h1
    refine wq_iload_n rfl rfl hc ?_
    refine wq_bipush rfl rfl ?_
    refine wq_ic_lt rfl rfl hc (by decide) (fun h2 => ?_) (fun h2 => ?_)
    · skip
      unfold ev_s at h2
      refine wq_iload_n rfl rfl hc ?_
      refine wq_bipush rfl rfl ?_
      refine wq_ic_ne rfl rfl hc (by decide) (fun h3 => ?_) (fun h3 => ?_)
      · skip
        refine wq_iconst rfl rfl ?_
        refine wq_iret rfl (by decide) (by decide) ?_
        exact wq_k1 (by unfold lx_letter; rw [if_neg (by omega)])
      · skip
        refine wq_iconst rfl rfl ?_
        refine wq_goto rfl rfl ?_
        refine wq_iret rfl (by decide) (by decide) ?_
        exact wq_k1 (by unfold lx_letter; rw [if_pos (by omega)])
    · skip
      unfold ev_s at h2
      refine wq_iload_n rfl rfl hc ?_
      refine wq_bipush rfl rfl ?_
      refine wq_ic_le rfl rfl hc (by decide) (fun h4 => ?_) (fun h4 => ?_)
      · skip
        unfold ev_s at h4
        refine wq_iconst rfl rfl ?_
        refine wq_goto rfl rfl ?_
        refine wq_iret rfl (by decide) (by decide) ?_
        exact wq_k1 (by unfold lx_letter; rw [if_pos (by omega)])
      · skip
        unfold ev_s at h4
        refine wq_iload_n rfl rfl hc ?_
        refine wq_bipush rfl rfl ?_
        refine wq_ic_ne rfl rfl hc (by decide) (fun h5 => ?_) (fun h5 => ?_)
        · skip
          refine wq_iconst rfl rfl ?_
          refine wq_iret rfl (by decide) (by decide) ?_
          exact wq_k1 (by unfold lx_letter; rw [if_neg (by omega)])
        · skip
          refine wq_iconst rfl rfl ?_
          refine wq_goto rfl rfl ?_
          refine wq_iret rfl (by decide) (by decide) ?_
          exact wq_k1 (by unfold lx_letter; rw [if_pos (by omega)])
  · skip
    unfold ev_s at h1
    refine wq_iload_n rfl rfl hc ?_
    refine wq_bipush rfl rfl ?_
    refine wq_ic_le rfl rfl hc (by decide) (fun h6 => ?_) (fun h6 => ?_)
    · skip
      unfold ev_s at h6
      refine wq_iconst rfl rfl ?_
      refine wq_goto rfl rfl ?_
      refine wq_iret rfl (by decide) (by decide) ?_
      exact wq_k1 (by unfold lx_letter; rw [if_pos (by omega)])
    · skip
      unfold ev_s at h6
      refine wq_iload_n rfl rfl hc ?_
      refine wq_bipush rfl rfl ?_
      refine wq_ic_lt rfl rfl hc (by decide) (fun h7 => ?_) (fun h7 => ?_)
      · skip
        unfold ev_s at h7
        refine wq_iload_n rfl rfl hc ?_
        refine wq_bipush rfl rfl ?_
        refine wq_ic_ne rfl rfl hc (by decide) (fun h8 => ?_) (fun h8 => ?_)
        · skip
          refine wq_iconst rfl rfl ?_
          refine wq_iret rfl (by decide) (by decide) ?_
          exact wq_k1 (by unfold lx_letter; rw [if_neg (by omega)])
        · skip
          refine wq_iconst rfl rfl ?_
          refine wq_goto rfl rfl ?_
          refine wq_iret rfl (by decide) (by decide) ?_
          exact wq_k1 (by unfold lx_letter; rw [if_pos (by omega)])
      · skip
        unfold ev_s at h7
        refine wq_iload_n rfl rfl hc ?_
        refine wq_bipush rfl rfl ?_
        refine wq_ic_le rfl rfl hc (by decide) (fun h9 => ?_) (fun h9 => ?_)
        · skip
          unfold ev_s at h9
          refine wq_iconst rfl rfl ?_
          refine wq_goto rfl rfl ?_
          refine wq_iret rfl (by decide) (by decide) ?_
          exact wq_k1 (by unfold lx_letter; rw [if_pos (by omega)])
        · skip
          unfold ev_s at h9
          refine wq_iload_n rfl rfl hc ?_
          refine wq_bipush rfl rfl ?_
          refine wq_ic_ne rfl rfl hc (by decide) (fun h10 => ?_) (fun h10 => ?_)
          · skip
            refine wq_iconst rfl rfl ?_
            refine wq_iret rfl (by decide) (by decide) ?_
            exact wq_k1 (by unfold lx_letter; rw [if_neg (by omega)])
          · skip
            refine wq_iconst rfl rfl ?_
            refine wq_goto rfl rfl ?_
            refine wq_iret rfl (by decide) (by decide) ?_
            exact wq_k1 (by unfold lx_letter; rw [if_pos (by omega)])
theorem xm_isDigit {F : wq_F} {d c : Nat} (hc : c < 4294967296) : mq (d + 1) 187 [c] xm_sh F (wq_k (some (lx_digit c)) xm_sh F) := by
  have e : ev_ent [c] = [c] := by
    rw [wm_entI hc]
    rfl
  refine mq_of (maxL := 1) (rt := (some .boolean)) (code := (ev_un al_mX10_isDigit.2.2.2.2)) (L := [c]) rfl (by rw [e]; exact Nat.le_of_ble_eq_true rfl) (by rw [e]; rfl) ?_
  refine wq_iload_n rfl rfl hc ?_
  refine wq_bipush rfl rfl ?_
  refine wq_ic_lt rfl rfl hc (by decide) (fun h1 => ?_) (fun h1 => ?_)
  · skip
    unfold ev_s at h1
    refine wq_iconst rfl rfl ?_
    refine wq_iret rfl (by decide) (by decide) ?_
    exact wq_k1 (by unfold lx_digit; rw [if_neg (by omega)])
  · skip
    unfold ev_s at h1
    refine wq_iload_n rfl rfl hc ?_
    refine wq_bipush rfl rfl ?_
    refine wq_ic_gt rfl rfl hc (by decide) (fun h2 => ?_) (fun h2 => ?_)
    · skip
      unfold ev_s at h2
      refine wq_iconst rfl rfl ?_
      refine wq_iret rfl (by decide) (by decide) ?_
      exact wq_k1 (by unfold lx_digit; rw [if_neg (by omega)])
    · skip
      unfold ev_s at h2
      refine wq_iconst rfl rfl ?_
      refine wq_goto rfl rfl ?_
      refine wq_iret rfl (by decide) (by decide) ?_
      exact wq_k1 (by unfold lx_digit; rw [if_pos (by omega)])
theorem xm_byteAt {F : wq_F} (hT : xm_T F) {d j : Nat} (hj : j < 2147483648) (hn : F 57 2 ≤ 6000) : mq (d + 1) 186 [36893488147419103289, j] xm_sh F (wq_k (some (lx_at (F 1) (F 57 2) j)) xm_sh F) := by
  unfold lx_at
  have e : ev_ent [36893488147419103289, j] = [36893488147419103289, j] := by
    show 36893488147419103289 :: ev_ent [j] = _
    rw [wm_entI (show j < 4294967296 by omega)]
    rfl
  refine mq_of (maxL := 2) (rt := (some .int)) (code := (ev_un al_mX10_byteAt.2.2.2.2)) (L := [36893488147419103289, j]) rfl (by rw [e]; exact Nat.le_of_ble_eq_true rfl) (by rw [e]; rfl) ?_
  refine wq_iload_n rfl rfl (show j < 4294967296 by omega) ?_
  refine wq_aload_n rfl rfl rfl ?_
  refine xm_getI (q := 57) rfl rfl (by decide) (by decide) ?_
  refine wq_ic_ge rfl rfl (show j < 4294967296 by omega) (hT.i (k := 57) 2 rfl (by decide) rfl) (fun h1 => ?_) (fun h1 => ?_)
  · skip
    unfold ev_s at h1
    refine wq_iconst rfl rfl ?_
    refine wq_iret rfl (by decide) rfl ?_
    exact wq_k1 (by rw [if_neg (by omega)])
  · skip
    unfold ev_s at h1
    refine wq_aload_n rfl rfl rfl ?_
    refine xm_getR (v := 36893488147419103233) (q := 57) rfl rfl (by decide) (by decide) (hT.r (k := 57) 0 0 rfl (by decide) rfl) ?_
    refine wq_iload_n rfl rfl (show j < 4294967296 by omega) ?_
    refine wq_baload (q := 1) (n := 6000) rfl rfl (by decide) (by omega) (by decide) ?_
    refine wq_goto rfl rfl ?_
    refine wq_iret rfl (hT.ab (k := 1) rfl (by omega)) rfl ?_
    exact wq_k1 (by rw [if_pos (by omega)])
theorem xm_behindBlanks {F : wq_F} (hT : xm_T F) (hn : F 57 2 ≤ 6000) {d p : Nat} (hp : p ≤ F 57 2) : mq (d + 2) 74 [36893488147419103289, p] xm_sh F (wq_k (some (lx_skip (F 1) (F 57 2) (F 57 2 + 1) p)) xm_sh F) := by
  have line : ∀ (g k c : Nat), c < 4294967296 → F 57 2 ≤ g + k → k ≤ F 57 2 → ∀ {K : Option Nat → List (Nat × Nat) → wq_F → Nat → Nat → Prop}, wq (wq_cf (d + 1)) (ev_un al_mX10_behindBlanks.2.2.2.2) (some .int) 2 [36893488147419103289, p, (lx_line (F 1) (F 57 2) g k), c] [] xm_sh F 0 0 K → wq (wq_cf (d + 1)) (ev_un al_mX10_behindBlanks.2.2.2.2) (some .int) 35 [36893488147419103289, p, k, c] [] xm_sh F 0 0 K := by
    intro g
    induction g with
    | zero =>
      intro k c hc h1 h2 K hK
      refine wq_iload_n rfl rfl (show k < 4294967296 by omega) ?_
      refine wq_aload_n rfl rfl rfl ?_
      refine xm_getI (q := 57) rfl rfl (by decide) (by decide) ?_
      refine wq_ic_ge rfl rfl (show k < 4294967296 by omega) (hT.i (k := 57) 2 rfl (by decide) rfl) (fun h1 => ?_) (fun h1 => ?_)
      · skip
        unfold ev_s at h1
        refine wq_goto rfl rfl ?_
        exact hK
      · skip
        unfold ev_s at h1
        exact absurd h1 (by omega)
    | succ g ih =>
      intro k c hc h1 h2 K hK
      refine wq_iload_n rfl rfl (show k < 4294967296 by omega) ?_
      refine wq_aload_n rfl rfl rfl ?_
      refine xm_getI (q := 57) rfl rfl (by decide) (by decide) ?_
      refine wq_ic_ge rfl rfl (show k < 4294967296 by omega) (hT.i (k := 57) 2 rfl (by decide) rfl) (fun h1 => ?_) (fun h1 => ?_)
      · skip
        unfold ev_s at h1
        refine wq_goto rfl rfl ?_
        rw [lx_line_e (by omega)] at hK
        exact hK
      · skip
        unfold ev_s at h1
        refine wq_aload_n rfl rfl rfl ?_
        refine xm_getR (v := 36893488147419103233) (q := 57) rfl rfl (by decide) (by decide) (hT.r (k := 57) 0 0 rfl (by decide) rfl) ?_
        refine wq_iload_n rfl rfl (show k < 4294967296 by omega) ?_
        refine wq_baload (q := 1) (n := 6000) rfl rfl (by decide) (by omega) (by decide) ?_
        refine wq_bipush rfl rfl ?_
        refine wq_ic_eq rfl rfl (hT.ab (k := 1) rfl (by omega)) (by decide) (fun h2 => ?_) (fun h2 => ?_)
        · skip
          refine wq_goto rfl rfl ?_
          rw [lx_line_e (by omega)] at hK
          exact hK
        · skip
          refine wq_iincZ rfl rfl (show k < 4294967296 by omega) (Or.inr ⟨_, rfl, (wq_notL (show p < 4294967296 by omega))⟩) rfl (z := k + 1) (by omega) (L' := [36893488147419103289, p, k + 1, c]) rfl ?_
          refine wq_goto rfl rfl ?_
          rw [lx_line_s (by omega) (by assumption)] at hK
          exact ih (k + 1) c hc (by omega) (by omega) hK
  have body : ∀ (f k c : Nat), ev_isL c = false → F 57 2 < f + k → k ≤ F 57 2 → ∀ {K : Option Nat → List (Nat × Nat) → wq_F → Nat → Nat → Prop}, K (some (lx_skip (F 1) (F 57 2) f k)) xm_sh F 0 0 → wq (wq_cf (d + 1)) (ev_un al_mX10_behindBlanks.2.2.2.2) (some .int) 2 [36893488147419103289, p, k, c] [] xm_sh F 0 0 K := by
    intro f
    induction f with
    | zero =>
      intro k c hc h1 h2 K hK
      exact absurd h1 (by omega)
    | succ f ih =>
      intro k c hc h1 h2 K hK
      refine wq_iload_n rfl rfl (show k < 4294967296 by omega) ?_
      refine wq_aload_n rfl rfl rfl ?_
      refine xm_getI (q := 57) rfl rfl (by decide) (by decide) ?_
      refine wq_ic_ge rfl rfl (show k < 4294967296 by omega) (hT.i (k := 57) 2 rfl (by decide) rfl) (fun h1 => ?_) (fun h1 => ?_)
      · skip
        unfold ev_s at h1
        refine wq_iload_n rfl rfl (show k < 4294967296 by omega) ?_
        have hat : k < F 57 2 → lx_at (F 1) (F 57 2) k = F 1 k := lx_at_of (T := F 1)
        have hat2 : ¬ k < F 57 2 → lx_at (F 1) (F 57 2) k = 4294967295 := fun h => if_neg h
        rw [lx_skip_e (by omega) (by omega)] at hK
        exact wq_iret rfl (show k < 4294967296 by omega) rfl hK
      · skip
        unfold ev_s at h1
        refine wq_aload_n rfl rfl rfl ?_
        refine xm_getR (v := 36893488147419103233) (q := 57) rfl rfl (by decide) (by decide) (hT.r (k := 57) 0 0 rfl (by decide) rfl) ?_
        refine wq_iload_n rfl rfl (show k < 4294967296 by omega) ?_
        refine wq_baload (q := 1) (n := 6000) rfl rfl (by decide) (by omega) (by decide) ?_
        refine wq_istore_n rfl (hT.ab (k := 1) rfl (by omega)) (Nat.le_of_ble_eq_true rfl) (Or.inr ⟨_, rfl, (wq_notL (show k < 4294967296 by omega))⟩) (L' := [36893488147419103289, p, k, F 1 k]) rfl ?_
        refine wq_iload_n rfl rfl (hT.ab (k := 1) rfl (by omega)) ?_
        refine wq_bipush rfl rfl ?_
        refine wq_ic_ne rfl rfl (hT.ab (k := 1) rfl (by omega)) (by decide) (fun h2 => ?_) (fun h2 => ?_)
        · skip
          refine wq_iload_n rfl rfl (hT.ab (k := 1) rfl (by omega)) ?_
          refine wq_bipush rfl rfl ?_
          refine wq_ic_eq rfl rfl (hT.ab (k := 1) rfl (by omega)) (by decide) (fun h3 => ?_) (fun h3 => ?_)
          · skip
            refine wq_iincZ rfl rfl (show k < 4294967296 by omega) (Or.inr ⟨_, rfl, (wq_notL (show p < 4294967296 by omega))⟩) rfl (z := k + 1) (by omega) (L' := [36893488147419103289, p, k + 1, F 1 k]) rfl ?_
            refine wq_goto rfl rfl ?_
            have hat := lx_at_of (T := F 1) (n := F 57 2) (k := k) (by omega)
            rw [lx_skip_b (by omega) (by omega)] at hK
            exact ih (k + 1) _ (wq_notL (xx_ch hT (by omega))) (by omega) (by omega) hK
          · skip
            refine wq_iload_n rfl rfl (hT.ab (k := 1) rfl (by omega)) ?_
            refine wq_bipush rfl rfl ?_
            refine wq_ic_eq rfl rfl (hT.ab (k := 1) rfl (by omega)) (by decide) (fun h4 => ?_) (fun h4 => ?_)
            · skip
              refine wq_iincZ rfl rfl (show k < 4294967296 by omega) (Or.inr ⟨_, rfl, (wq_notL (show p < 4294967296 by omega))⟩) rfl (z := k + 1) (by omega) (L' := [36893488147419103289, p, k + 1, F 1 k]) rfl ?_
              refine wq_goto rfl rfl ?_
              have hat := lx_at_of (T := F 1) (n := F 57 2) (k := k) (by omega)
              rw [lx_skip_b (by omega) (by omega)] at hK
              exact ih (k + 1) _ (wq_notL (xx_ch hT (by omega))) (by omega) (by omega) hK
            · skip
              refine wq_iload_n rfl rfl (hT.ab (k := 1) rfl (by omega)) ?_
              refine wq_bipush rfl rfl ?_
              refine wq_ic_eq rfl rfl (hT.ab (k := 1) rfl (by omega)) (by decide) (fun h5 => ?_) (fun h5 => ?_)
              · skip
                refine wq_iincZ rfl rfl (show k < 4294967296 by omega) (Or.inr ⟨_, rfl, (wq_notL (show p < 4294967296 by omega))⟩) rfl (z := k + 1) (by omega) (L' := [36893488147419103289, p, k + 1, F 1 k]) rfl ?_
                refine wq_goto rfl rfl ?_
                have hat := lx_at_of (T := F 1) (n := F 57 2) (k := k) (by omega)
                rw [lx_skip_b (by omega) (by omega)] at hK
                exact ih (k + 1) _ (wq_notL (xx_ch hT (by omega))) (by omega) (by omega) hK
              · skip
                refine wq_iload_n rfl rfl (hT.ab (k := 1) rfl (by omega)) ?_
                refine wq_bipush rfl rfl ?_
                refine wq_ic_ne rfl rfl (hT.ab (k := 1) rfl (by omega)) (by decide) (fun h6 => ?_) (fun h6 => ?_)
                · skip
                  refine wq_iload_n rfl rfl (show k < 4294967296 by omega) ?_
                  have hat : k < F 57 2 → lx_at (F 1) (F 57 2) k = F 1 k := lx_at_of (T := F 1)
                  have hat2 : ¬ k < F 57 2 → lx_at (F 1) (F 57 2) k = 4294967295 := fun h => if_neg h
                  rw [lx_skip_e (by omega) (by omega)] at hK
                  exact wq_iret rfl (show k < 4294967296 by omega) rfl hK
                · skip
                  refine wq_iincZ rfl rfl (show k < 4294967296 by omega) (Or.inr ⟨_, rfl, (wq_notL (show p < 4294967296 by omega))⟩) rfl (z := k + 1) (by omega) (L' := [36893488147419103289, p, k + 1, F 1 k]) rfl ?_
                  refine wq_goto rfl rfl ?_
                  have hat := lx_at_of (T := F 1) (n := F 57 2) (k := k) (by omega)
                  rw [lx_skip_b (by omega) (by omega)] at hK
                  exact ih (k + 1) _ (wq_notL (xx_ch hT (by omega))) (by omega) (by omega) hK
        · skip
          refine wq_aload_n rfl rfl rfl ?_
          refine wq_iload_n rfl rfl (show k < 4294967296 by omega) ?_
          refine wq_iconst rfl rfl ?_
          refine wq_iaddZ rfl (show k < 4294967296 by omega) (by decide) (z := k + 1) (by omega) ?_
          refine xm_virtI (q := 57) (as := [36893488147419103289, k + 1]) rfl rfl rfl (by decide) (by decide) (Nat.le_of_ble_eq_true rfl) rfl (Nat.le_of_ble_eq_true rfl) rfl (xm_byteAt hT (show k + 1 < 2147483648 by omega) hn) ?_
          refine wq_bipush rfl rfl ?_
          refine wq_ic_ne rfl rfl (xx_at_lt hT _ hn) (by decide) (fun h7 => ?_) (fun h7 => ?_)
          · skip
            refine wq_iload_n rfl rfl (hT.ab (k := 1) rfl (by omega)) ?_
            refine wq_bipush rfl rfl ?_
            refine wq_ic_eq rfl rfl (hT.ab (k := 1) rfl (by omega)) (by decide) (fun h8 => ?_) (fun h8 => ?_)
            · skip
              refine wq_iincZ rfl rfl (show k < 4294967296 by omega) (Or.inr ⟨_, rfl, (wq_notL (show p < 4294967296 by omega))⟩) rfl (z := k + 1) (by omega) (L' := [36893488147419103289, p, k + 1, F 1 k]) rfl ?_
              refine wq_goto rfl rfl ?_
              have hat := lx_at_of (T := F 1) (n := F 57 2) (k := k) (by omega)
              rw [lx_skip_b (by omega) (by omega)] at hK
              exact ih (k + 1) _ (wq_notL (xx_ch hT (by omega))) (by omega) (by omega) hK
            · skip
              refine wq_iload_n rfl rfl (hT.ab (k := 1) rfl (by omega)) ?_
              refine wq_bipush rfl rfl ?_
              refine wq_ic_eq rfl rfl (hT.ab (k := 1) rfl (by omega)) (by decide) (fun h9 => ?_) (fun h9 => ?_)
              · skip
                refine wq_iincZ rfl rfl (show k < 4294967296 by omega) (Or.inr ⟨_, rfl, (wq_notL (show p < 4294967296 by omega))⟩) rfl (z := k + 1) (by omega) (L' := [36893488147419103289, p, k + 1, F 1 k]) rfl ?_
                refine wq_goto rfl rfl ?_
                have hat := lx_at_of (T := F 1) (n := F 57 2) (k := k) (by omega)
                rw [lx_skip_b (by omega) (by omega)] at hK
                exact ih (k + 1) _ (wq_notL (xx_ch hT (by omega))) (by omega) (by omega) hK
              · skip
                refine wq_iload_n rfl rfl (hT.ab (k := 1) rfl (by omega)) ?_
                refine wq_bipush rfl rfl ?_
                refine wq_ic_eq rfl rfl (hT.ab (k := 1) rfl (by omega)) (by decide) (fun h10 => ?_) (fun h10 => ?_)
                · skip
                  refine wq_iincZ rfl rfl (show k < 4294967296 by omega) (Or.inr ⟨_, rfl, (wq_notL (show p < 4294967296 by omega))⟩) rfl (z := k + 1) (by omega) (L' := [36893488147419103289, p, k + 1, F 1 k]) rfl ?_
                  refine wq_goto rfl rfl ?_
                  have hat := lx_at_of (T := F 1) (n := F 57 2) (k := k) (by omega)
                  rw [lx_skip_b (by omega) (by omega)] at hK
                  exact ih (k + 1) _ (wq_notL (xx_ch hT (by omega))) (by omega) (by omega) hK
                · skip
                  refine wq_iload_n rfl rfl (hT.ab (k := 1) rfl (by omega)) ?_
                  refine wq_bipush rfl rfl ?_
                  refine wq_ic_ne rfl rfl (hT.ab (k := 1) rfl (by omega)) (by decide) (fun h11 => ?_) (fun h11 => ?_)
                  · skip
                    refine wq_iload_n rfl rfl (show k < 4294967296 by omega) ?_
                    have hat : k < F 57 2 → lx_at (F 1) (F 57 2) k = F 1 k := lx_at_of (T := F 1)
                    have hat2 : ¬ k < F 57 2 → lx_at (F 1) (F 57 2) k = 4294967295 := fun h => if_neg h
                    rw [lx_skip_e (by omega) (by omega)] at hK
                    exact wq_iret rfl (show k < 4294967296 by omega) rfl hK
                  · skip
                    refine wq_iincZ rfl rfl (show k < 4294967296 by omega) (Or.inr ⟨_, rfl, (wq_notL (show p < 4294967296 by omega))⟩) rfl (z := k + 1) (by omega) (L' := [36893488147419103289, p, k + 1, F 1 k]) rfl ?_
                    refine wq_goto rfl rfl ?_
                    have hat := lx_at_of (T := F 1) (n := F 57 2) (k := k) (by omega)
                    rw [lx_skip_b (by omega) (by omega)] at hK
                    exact ih (k + 1) _ (wq_notL (xx_ch hT (by omega))) (by omega) (by omega) hK
          · skip
            have hkn : k < F 57 2 := by omega
            have hat := lx_at_of (T := F 1) (n := F 57 2) (k := k) (by omega)
            have hk45 : F 1 k ≠ 10 := by omega
            have g1 := lx_line_gt (T := F 1) (g := F 57 2) hkn hk45 (by omega)
            have g2 := lx_line_le (T := F 1) (g := F 57 2) (k := k) (n := F 57 2) (by omega)
            rw [lx_skip_l (by omega) (by omega)] at hK
            exact line (F 57 2) k _ (xx_ch hT (by omega)) (by omega) (by omega) (ih _ _ (wq_notL (xx_ch hT (by omega))) (by omega) (by omega) hK)
  have e : ev_ent [36893488147419103289, p] = [36893488147419103289, p] := by
    show 36893488147419103289 :: ev_ent [p] = _
    rw [wm_entI (show p < 4294967296 by omega)]
    rfl
  refine mq_of (maxL := 4) (rt := (some .int)) (code := (ev_un al_mX10_behindBlanks.2.2.2.2)) (L := [36893488147419103289, p, 73786976294838206464, 73786976294838206464]) rfl (by rw [e]; exact Nat.le_of_ble_eq_true rfl) (by rw [e]; rfl) ?_
  refine wq_iload_n rfl rfl (show p < 4294967296 by omega) ?_
  refine wq_istore_n rfl (show p < 4294967296 by omega) (Nat.le_of_ble_eq_true rfl) (Or.inr ⟨_, rfl, (wq_notL (show p < 4294967296 by omega))⟩) (L' := [36893488147419103289, p, p, 73786976294838206464]) rfl ?_
  exact body _ p _ rfl (by omega) (by omega) wq_k0
