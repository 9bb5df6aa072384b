/-! ===== 62: signs and digits on both sides (by wip/whole2/law62.py) ===== -/
def lx_p7 (c d : Nat) : Nat := if c = 46 ∧ d = 46 then 300 else 0
def lx_p6 (c d : Nat) : Nat := if c = 47 ∧ d = 47 then 308 else lx_p7 c d
def lx_p5 (c d : Nat) : Nat := if c = 62 ∧ d = 62 then 307 else lx_p6 c d
def lx_p4 (c d : Nat) : Nat := if c = 60 ∧ d = 60 then 306 else lx_p5 c d
def lx_p3 (c d : Nat) : Nat := if c = 62 ∧ d = 61 then 305 else lx_p4 c d
def lx_p2 (c d : Nat) : Nat := if c = 60 ∧ d = 61 then 304 else lx_p3 c d
def lx_p1 (c d : Nat) : Nat := if c = 126 ∧ d = 61 then 303 else lx_p2 c d
def lx_p0 (c d : Nat) : Nat := if c = 61 ∧ d = 61 then 302 else lx_p1 c d
def lx_q (c d : Nat) : Nat := if d = 61 then (if c = 60 then 68 else if c = 61 then 66 else if c = 62 then 69 else if c = 126 then 67 else 1) else if c = d then (if c = 46 then 64 else if c = 47 then 61 else if c = 60 then 62 else if c = 62 then 63 else 1) else 1
def lx_hex (c : Nat) : Nat := if lx_digit c = 1 then c - 48 else if 97 ≤ c ∧ c ≤ 102 then c - 87 else if 65 ≤ c ∧ c ≤ 70 then c - 55 else 4294967295
theorem lx_digit2 (c : Nat) : lx_digit c < 2 := by
  unfold lx_digit
  split <;> decide
theorem lx_digit_lt (c : Nat) : lx_digit c < 4294967296 := by
  have := lx_digit2 c
  omega
theorem lx_digit9 {c : Nat} (h : ¬ lx_digit c = 0) : 48 ≤ c ∧ c ≤ 57 ∧ lx_digit c = 1 := by
  unfold lx_digit at h ⊢
  split at h
  · rename_i q
    exact ⟨q.1, q.2, if_pos q⟩
  · exact absurd rfl h
theorem wm_pair {F : wq_F} {d c e : Nat} (hc : c < 4294967296) (he : e < 4294967296) : mq (d + 1) 206 [c, e] wm_sh F (wq_k (some (lx_p0 c e)) wm_sh F) := by
  have H7 : ∀ {K : Option Nat → List (Nat × Nat) → wq_F → Nat → Nat → Prop}, K (some (lx_p7 c e)) wm_sh F 0 0 → wq (wq_cf d) (ev_un al_mX12_pair.2.2.2.2) (some .int) 112 [c, e] [] wm_sh F 0 0 K := by
    intro K hK
    refine wq_iload_n rfl rfl hc ?_
    refine wq_bipush rfl rfl ?_
    refine wq_ic_ne rfl rfl hc (by decide) (fun h1 => ?_) (fun h1 => ?_)
    · skip
      refine wq_iconst rfl rfl ?_
      rw [show lx_p7 c e = 0 from if_neg (by omega)] at hK
      exact wq_iret rfl (by decide) rfl hK
    · skip
      refine wq_iload_n rfl rfl he ?_
      refine wq_bipush rfl rfl ?_
      refine wq_ic_ne rfl rfl he (by decide) (fun h2 => ?_) (fun h2 => ?_)
      · skip
        refine wq_iconst rfl rfl ?_
        rw [show lx_p7 c e = 0 from if_neg (by omega)] at hK
        exact wq_iret rfl (by decide) rfl hK
      · skip
        refine wq_sipush rfl rfl ?_
        refine wq_goto rfl rfl ?_
        rw [show lx_p7 c e = 300 from if_pos ⟨by omega, by omega⟩] at hK
        exact wq_iret rfl (by decide) rfl hK
  have H6 : ∀ {K : Option Nat → List (Nat × Nat) → wq_F → Nat → Nat → Prop}, K (some (lx_p6 c e)) wm_sh F 0 0 → wq (wq_cf d) (ev_un al_mX12_pair.2.2.2.2) (some .int) 96 [c, e] [] wm_sh F 0 0 K := by
    intro K hK
    refine wq_iload_n rfl rfl hc ?_
    refine wq_bipush rfl rfl ?_
    refine wq_ic_ne rfl rfl hc (by decide) (fun h1 => ?_) (fun h1 => ?_)
    · skip
      rw [show lx_p6 c e = lx_p7 c e from if_neg (by omega)] at hK
      exact H7 hK
    · skip
      refine wq_iload_n rfl rfl he ?_
      refine wq_bipush rfl rfl ?_
      refine wq_ic_ne rfl rfl he (by decide) (fun h2 => ?_) (fun h2 => ?_)
      · skip
        rw [show lx_p6 c e = lx_p7 c e from if_neg (by omega)] at hK
        exact H7 hK
      · skip
        refine wq_sipush rfl rfl ?_
        rw [show lx_p6 c e = 308 from if_pos ⟨by omega, by omega⟩] at hK
        exact wq_iret rfl (by decide) rfl hK
  have H5 : ∀ {K : Option Nat → List (Nat × Nat) → wq_F → Nat → Nat → Prop}, K (some (lx_p5 c e)) wm_sh F 0 0 → wq (wq_cf d) (ev_un al_mX12_pair.2.2.2.2) (some .int) 80 [c, e] [] wm_sh F 0 0 K := by
    intro K hK
    refine wq_iload_n rfl rfl hc ?_
    refine wq_bipush rfl rfl ?_
    refine wq_ic_ne rfl rfl hc (by decide) (fun h1 => ?_) (fun h1 => ?_)
    · skip
      rw [show lx_p5 c e = lx_p6 c e from if_neg (by omega)] at hK
      exact H6 hK
    · skip
      refine wq_iload_n rfl rfl he ?_
      refine wq_bipush rfl rfl ?_
      refine wq_ic_ne rfl rfl he (by decide) (fun h2 => ?_) (fun h2 => ?_)
      · skip
        rw [show lx_p5 c e = lx_p6 c e from if_neg (by omega)] at hK
        exact H6 hK
      · skip
        refine wq_sipush rfl rfl ?_
        rw [show lx_p5 c e = 307 from if_pos ⟨by omega, by omega⟩] at hK
        exact wq_iret rfl (by decide) rfl hK
  have H4 : ∀ {K : Option Nat → List (Nat × Nat) → wq_F → Nat → Nat → Prop}, K (some (lx_p4 c e)) wm_sh F 0 0 → wq (wq_cf d) (ev_un al_mX12_pair.2.2.2.2) (some .int) 64 [c, e] [] wm_sh F 0 0 K := by
    intro K hK
    refine wq_iload_n rfl rfl hc ?_
    refine wq_bipush rfl rfl ?_
    refine wq_ic_ne rfl rfl hc (by decide) (fun h1 => ?_) (fun h1 => ?_)
    · skip
      rw [show lx_p4 c e = lx_p5 c e from if_neg (by omega)] at hK
      exact H5 hK
    · skip
      refine wq_iload_n rfl rfl he ?_
      refine wq_bipush rfl rfl ?_
      refine wq_ic_ne rfl rfl he (by decide) (fun h2 => ?_) (fun h2 => ?_)
      · skip
        rw [show lx_p4 c e = lx_p5 c e from if_neg (by omega)] at hK
        exact H5 hK
      · skip
        refine wq_sipush rfl rfl ?_
        rw [show lx_p4 c e = 306 from if_pos ⟨by omega, by omega⟩] at hK
        exact wq_iret rfl (by decide) rfl hK
  have H3 : ∀ {K : Option Nat → List (Nat × Nat) → wq_F → Nat → Nat → Prop}, K (some (lx_p3 c e)) wm_sh F 0 0 → wq (wq_cf d) (ev_un al_mX12_pair.2.2.2.2) (some .int) 48 [c, e] [] wm_sh F 0 0 K := by
    intro K hK
    refine wq_iload_n rfl rfl hc ?_
    refine wq_bipush rfl rfl ?_
    refine wq_ic_ne rfl rfl hc (by decide) (fun h1 => ?_) (fun h1 => ?_)
    · skip
      rw [show lx_p3 c e = lx_p4 c e from if_neg (by omega)] at hK
      exact H4 hK
    · skip
      refine wq_iload_n rfl rfl he ?_
      refine wq_bipush rfl rfl ?_
      refine wq_ic_ne rfl rfl he (by decide) (fun h2 => ?_) (fun h2 => ?_)
      · skip
        rw [show lx_p3 c e = lx_p4 c e from if_neg (by omega)] at hK
        exact H4 hK
      · skip
        refine wq_sipush rfl rfl ?_
        rw [show lx_p3 c e = 305 from if_pos ⟨by omega, by omega⟩] at hK
        exact wq_iret rfl (by decide) rfl hK
  have H2 : ∀ {K : Option Nat → List (Nat × Nat) → wq_F → Nat → Nat → Prop}, K (some (lx_p2 c e)) wm_sh F 0 0 → wq (wq_cf d) (ev_un al_mX12_pair.2.2.2.2) (some .int) 32 [c, e] [] wm_sh F 0 0 K := by
    intro K hK
    refine wq_iload_n rfl rfl hc ?_
    refine wq_bipush rfl rfl ?_
    refine wq_ic_ne rfl rfl hc (by decide) (fun h1 => ?_) (fun h1 => ?_)
    · skip
      rw [show lx_p2 c e = lx_p3 c e from if_neg (by omega)] at hK
      exact H3 hK
    · skip
      refine wq_iload_n rfl rfl he ?_
      refine wq_bipush rfl rfl ?_
      refine wq_ic_ne rfl rfl he (by decide) (fun h2 => ?_) (fun h2 => ?_)
      · skip
        rw [show lx_p2 c e = lx_p3 c e from if_neg (by omega)] at hK
        exact H3 hK
      · skip
        refine wq_sipush rfl rfl ?_
        rw [show lx_p2 c e = 304 from if_pos ⟨by omega, by omega⟩] at hK
        exact wq_iret rfl (by decide) rfl hK
  have H1 : ∀ {K : Option Nat → List (Nat × Nat) → wq_F → Nat → Nat → Prop}, K (some (lx_p1 c e)) wm_sh F 0 0 → wq (wq_cf d) (ev_un al_mX12_pair.2.2.2.2) (some .int) 16 [c, e] [] wm_sh F 0 0 K := by
    intro K hK
    refine wq_iload_n rfl rfl hc ?_
    refine wq_bipush rfl rfl ?_
    refine wq_ic_ne rfl rfl hc (by decide) (fun h1 => ?_) (fun h1 => ?_)
    · skip
      rw [show lx_p1 c e = lx_p2 c e from if_neg (by omega)] at hK
      exact H2 hK
    · skip
      refine wq_iload_n rfl rfl he ?_
      refine wq_bipush rfl rfl ?_
      refine wq_ic_ne rfl rfl he (by decide) (fun h2 => ?_) (fun h2 => ?_)
      · skip
        rw [show lx_p1 c e = lx_p2 c e from if_neg (by omega)] at hK
        exact H2 hK
      · skip
        refine wq_sipush rfl rfl ?_
        rw [show lx_p1 c e = 303 from if_pos ⟨by omega, by omega⟩] at hK
        exact wq_iret rfl (by decide) rfl hK
  have H0 : ∀ {K : Option Nat → List (Nat × Nat) → wq_F → Nat → Nat → Prop}, K (some (lx_p0 c e)) wm_sh F 0 0 → wq (wq_cf d) (ev_un al_mX12_pair.2.2.2.2) (some .int) 0 [c, e] [] wm_sh F 0 0 K := by
    intro K hK
    refine wq_iload_n rfl rfl hc ?_
    refine wq_bipush rfl rfl ?_
    refine wq_ic_ne rfl rfl hc (by decide) (fun h1 => ?_) (fun h1 => ?_)
    · skip
      rw [show lx_p0 c e = lx_p1 c e from if_neg (by omega)] at hK
      exact H1 hK
    · skip
      refine wq_iload_n rfl rfl he ?_
      refine wq_bipush rfl rfl ?_
      refine wq_ic_ne rfl rfl he (by decide) (fun h2 => ?_) (fun h2 => ?_)
      · skip
        rw [show lx_p0 c e = lx_p1 c e from if_neg (by omega)] at hK
        exact H1 hK
      · skip
        refine wq_sipush rfl rfl ?_
        rw [show lx_p0 c e = 302 from if_pos ⟨by omega, by omega⟩] at hK
        exact wq_iret rfl (by decide) rfl hK
  have ee : ev_ent [c, e] = [c, e] := by
    rw [wm_entI hc, wm_entI he]
    rfl
  refine mq_of (maxL := 2) (rt := (some .int)) (code := (ev_un al_mX12_pair.2.2.2.2)) (L := [c, e]) rfl (by rw [ee]; exact Nat.le_of_ble_eq_true rfl) (by rw [ee]; rfl) ?_
  exact H0 wq_k0
theorem xm_pairOf {F : wq_F} {d c e : Nat} (hc : c < 4294967296) (he : e < 4294967296) : mq (d + 1) 195 [c, e] xm_sh F (wq_k (some (lx_q c e)) xm_sh F) := by
  have ee : ev_ent [c, e] = [c, e] := by
    rw [wm_entI hc, wm_entI he]
    rfl
  refine mq_of (maxL := 2) (rt := (some .int)) (code := (ev_un al_mX10_pairOf.2.2.2.2)) (L := [c, e]) rfl (by rw [ee]; exact Nat.le_of_ble_eq_true rfl) (by rw [ee]; rfl) ?_
  refine wq_iload_n rfl rfl he ?_
  refine wq_bipush rfl rfl ?_
  refine wq_ic_ne rfl rfl he (by decide) (fun h1 => ?_) (fun h1 => ?_)
  · skip
    refine wq_iload_n rfl rfl hc ?_
    refine wq_iload_n rfl rfl he ?_
    refine wq_ic_eq rfl rfl hc he (fun h2 => ?_) (fun h2 => ?_)
    · skip
      refine wq_iload_n rfl rfl hc ?_
      by_cases h3 : c = 46
      case pos =>
        refine wq_top h3 ?_
        refine wq_lsw rfl (by decide) rfl (tgt := 121) rfl ?_
        refine wq_bipush rfl rfl ?_
        refine wq_iret rfl (by decide) rfl ?_
        exact wq_k1 (by unfold lx_q; split <;> (try split) <;> (try split) <;> (try split) <;> (try split) <;> omega)
      by_cases h4 : c = 47
      case pos =>
        refine wq_top h4 ?_
        refine wq_lsw rfl (by decide) rfl (tgt := 112) rfl ?_
        refine wq_bipush rfl rfl ?_
        refine wq_iret rfl (by decide) rfl ?_
        exact wq_k1 (by unfold lx_q; split <;> (try split) <;> (try split) <;> (try split) <;> (try split) <;> omega)
      by_cases h5 : c = 60
      case pos =>
        refine wq_top h5 ?_
        refine wq_lsw rfl (by decide) rfl (tgt := 115) rfl ?_
        refine wq_bipush rfl rfl ?_
        refine wq_iret rfl (by decide) rfl ?_
        exact wq_k1 (by unfold lx_q; split <;> (try split) <;> (try split) <;> (try split) <;> (try split) <;> omega)
      by_cases h6 : c = 62
      case pos =>
        refine wq_top h6 ?_
        refine wq_lsw rfl (by decide) rfl (tgt := 118) rfl ?_
        refine wq_bipush rfl rfl ?_
        refine wq_iret rfl (by decide) rfl ?_
        exact wq_k1 (by unfold lx_q; split <;> (try split) <;> (try split) <;> (try split) <;> (try split) <;> omega)
      refine wq_lswD rfl hc rfl (List.forall_mem_cons.mpr ⟨wq_siNe (v := 46) hc (by decide) h3, (List.forall_mem_cons.mpr ⟨wq_siNe (v := 47) hc (by decide) h4, (List.forall_mem_cons.mpr ⟨wq_siNe (v := 60) hc (by decide) h5, (List.forall_mem_cons.mpr ⟨wq_siNe (v := 62) hc (by decide) h6, (fun _ h => absurd h List.not_mem_nil)⟩)⟩)⟩)⟩) rfl (tgt := 124) rfl ?_
      refine wq_iconst rfl rfl ?_
      refine wq_iret rfl (by decide) rfl ?_
      exact wq_k1 (by unfold lx_q; split <;> (try split) <;> (try split) <;> (try split) <;> (try split) <;> omega)
    · skip
      refine wq_iconst rfl rfl ?_
      refine wq_iret rfl (by decide) rfl ?_
      exact wq_k1 (by unfold lx_q; split <;> (try split) <;> (try split) <;> (try split) <;> (try split) <;> omega)
  · skip
    refine wq_iload_n rfl rfl hc ?_
    by_cases h7 : c = 60
    case pos =>
      refine wq_top h7 ?_
      refine wq_lsw rfl (by decide) rfl (tgt := 54) rfl ?_
      refine wq_bipush rfl rfl ?_
      refine wq_iret rfl (by decide) rfl ?_
      exact wq_k1 (by unfold lx_q; split <;> (try split) <;> (try split) <;> (try split) <;> (try split) <;> omega)
    by_cases h8 : c = 61
    case pos =>
      refine wq_top h8 ?_
      refine wq_lsw rfl (by decide) rfl (tgt := 48) rfl ?_
      refine wq_bipush rfl rfl ?_
      refine wq_iret rfl (by decide) rfl ?_
      exact wq_k1 (by unfold lx_q; split <;> (try split) <;> (try split) <;> (try split) <;> (try split) <;> omega)
    by_cases h9 : c = 62
    case pos =>
      refine wq_top h9 ?_
      refine wq_lsw rfl (by decide) rfl (tgt := 57) rfl ?_
      refine wq_bipush rfl rfl ?_
      refine wq_iret rfl (by decide) rfl ?_
      exact wq_k1 (by unfold lx_q; split <;> (try split) <;> (try split) <;> (try split) <;> (try split) <;> omega)
    by_cases h10 : c = 126
    case pos =>
      refine wq_top h10 ?_
      refine wq_lsw rfl (by decide) rfl (tgt := 51) rfl ?_
      refine wq_bipush rfl rfl ?_
      refine wq_iret rfl (by decide) rfl ?_
      exact wq_k1 (by unfold lx_q; split <;> (try split) <;> (try split) <;> (try split) <;> (try split) <;> omega)
    refine wq_lswD rfl hc rfl (List.forall_mem_cons.mpr ⟨wq_siNe (v := 60) hc (by decide) h7, (List.forall_mem_cons.mpr ⟨wq_siNe (v := 61) hc (by decide) h8, (List.forall_mem_cons.mpr ⟨wq_siNe (v := 62) hc (by decide) h9, (List.forall_mem_cons.mpr ⟨wq_siNe (v := 126) hc (by decide) h10, (fun _ h => absurd h List.not_mem_nil)⟩)⟩)⟩)⟩) rfl (tgt := 60) rfl ?_
    refine wq_iconst rfl rfl ?_
    refine wq_iret rfl (by decide) rfl ?_
    exact wq_k1 (by unfold lx_q; split <;> (try split) <;> (try split) <;> (try split) <;> (try split) <;> omega)
theorem wm_hex {F : wq_F} {d c : Nat} (hc : c < 4294967296) : mq (d + 2) 199 [c] wm_sh F (wq_k (some (lx_hex c)) wm_sh F) := by
  have e : ev_ent [c] = [c] := by
    rw [wm_entI hc]
    rfl
  refine mq_of (maxL := 1) (rt := (some .int)) (code := (ev_un al_mX12_hex.2.2.2.2)) (L := [c]) rfl (by rw [e]; exact Nat.le_of_ble_eq_true rfl) (by rw [e]; rfl) ?_
  refine wq_iload_n rfl rfl hc ?_
  refine wm_statI (as := [c]) rfl (by decide) (Nat.le_of_ble_eq_true rfl) rfl (Nat.le_of_ble_eq_true rfl) rfl (wm_isDigit hc) ?_
  refine wq_if_eq rfl rfl (lx_digit_lt c) (fun h1 => ?_) (fun h1 => ?_)
  · skip
    refine wq_iload_n rfl rfl hc ?_
    refine wq_bipush rfl rfl ?_
    refine wq_ic_lt rfl rfl hc (by decide) (fun h2 => ?_) (fun h2 => ?_)
    · skip
      unfold ev_s at h2
      refine wq_iload_n rfl rfl hc ?_
      refine wq_bipush rfl rfl ?_
      refine wq_ic_lt rfl rfl hc (by decide) (fun h3 => ?_) (fun h3 => ?_)
      · skip
        unfold ev_s at h3
        refine wq_iconst rfl rfl ?_
        refine wq_iret rfl (by decide) rfl ?_
        exact wq_k1 (by unfold lx_hex; rw [if_neg (by omega), if_neg (by omega), if_neg (by omega)])
      · skip
        unfold ev_s at h3
        refine wq_iload_n rfl rfl hc ?_
        refine wq_bipush rfl rfl ?_
        refine wq_ic_gt rfl rfl hc (by decide) (fun h4 => ?_) (fun h4 => ?_)
        · skip
          unfold ev_s at h4
          refine wq_iconst rfl rfl ?_
          refine wq_iret rfl (by decide) rfl ?_
          exact wq_k1 (by unfold lx_hex; rw [if_neg (by omega), if_neg (by omega), if_neg (by omega)])
        · skip
          unfold ev_s at h4
          refine wq_iload_n rfl rfl hc ?_
          refine wq_bipush rfl rfl ?_
          refine wq_isubZ rfl hc (by decide) (z := c - 65) (by omega) ?_
          refine wq_bipush rfl rfl ?_
          refine wq_iaddZ rfl (by omega) (by decide) (z := c - 55) (by omega) ?_
          refine wq_goto rfl rfl ?_
          refine wq_iret rfl (by omega) rfl ?_
          exact wq_k1 (by unfold lx_hex; rw [if_neg (by omega), if_neg (by omega), if_pos (by omega)])
    · skip
      unfold ev_s at h2
      refine wq_iload_n rfl rfl hc ?_
      refine wq_bipush rfl rfl ?_
      refine wq_ic_gt rfl rfl hc (by decide) (fun h5 => ?_) (fun h5 => ?_)
      · skip
        unfold ev_s at h5
        refine wq_iload_n rfl rfl hc ?_
        refine wq_bipush rfl rfl ?_
        refine wq_ic_lt rfl rfl hc (by decide) (fun h6 => ?_) (fun h6 => ?_)
        · skip
          unfold ev_s at h6
          refine wq_iconst rfl rfl ?_
          refine wq_iret rfl (by decide) rfl ?_
          exact wq_k1 (by unfold lx_hex; rw [if_neg (by omega), if_neg (by omega), if_neg (by omega)])
        · skip
          unfold ev_s at h6
          refine wq_iload_n rfl rfl hc ?_
          refine wq_bipush rfl rfl ?_
          refine wq_ic_gt rfl rfl hc (by decide) (fun h7 => ?_) (fun h7 => ?_)
          · skip
            unfold ev_s at h7
            refine wq_iconst rfl rfl ?_
            refine wq_iret rfl (by decide) rfl ?_
            exact wq_k1 (by unfold lx_hex; rw [if_neg (by omega), if_neg (by omega), if_neg (by omega)])
          · skip
            unfold ev_s at h7
            refine wq_iload_n rfl rfl hc ?_
            refine wq_bipush rfl rfl ?_
            refine wq_isubZ rfl hc (by decide) (z := c - 65) (by omega) ?_
            refine wq_bipush rfl rfl ?_
            refine wq_iaddZ rfl (by omega) (by decide) (z := c - 55) (by omega) ?_
            refine wq_goto rfl rfl ?_
            refine wq_iret rfl (by omega) rfl ?_
            exact wq_k1 (by unfold lx_hex; rw [if_neg (by omega), if_neg (by omega), if_pos (by omega)])
      · skip
        unfold ev_s at h5
        refine wq_iload_n rfl rfl hc ?_
        refine wq_bipush rfl rfl ?_
        refine wq_isubZ rfl hc (by decide) (z := c - 97) (by omega) ?_
        refine wq_bipush rfl rfl ?_
        refine wq_iaddZ rfl (by omega) (by decide) (z := c - 87) (by omega) ?_
        refine wq_goto rfl rfl ?_
        refine wq_iret rfl (by omega) rfl ?_
        exact wq_k1 (by unfold lx_hex; rw [if_neg (by omega), if_pos (by omega)])
  · skip
    refine wq_iload_n rfl rfl hc ?_
    refine wq_bipush rfl rfl ?_
    have hd9 := lx_digit9 (c := c) (by omega)
    refine wq_isubZ rfl hc (by decide) (z := c - 48) (by omega) ?_
    refine wq_goto rfl rfl ?_
    refine wq_iret rfl (by omega) rfl ?_
    exact wq_k1 (by unfold lx_hex; rw [if_pos (by omega)])
theorem xm_hexDigit {F : wq_F} {d c : Nat} (hc : c < 4294967296) : mq (d + 2) 189 [c] xm_sh F (wq_k (some (lx_hex c)) xm_sh F) := by
  have e : ev_ent [c] = [c] := by
    rw [wm_entI hc]
    rfl
  refine mq_of (maxL := 1) (rt := (some .int)) (code := (ev_un al_mX10_hexDigit.2.2.2.2)) (L := [c]) rfl (by rw [e]; exact Nat.le_of_ble_eq_true rfl) (by rw [e]; rfl) ?_
  refine wq_iload_n rfl rfl hc ?_
  refine xm_statI (as := [c]) rfl (by decide) (Nat.le_of_ble_eq_true rfl) rfl (Nat.le_of_ble_eq_true rfl) rfl (xm_isDigit hc) ?_
  refine wq_if_eq rfl rfl (lx_digit_lt c) (fun h1 => ?_) (fun h1 => ?_)
  · skip
    refine wq_iload_n rfl rfl hc ?_
    refine wq_bipush rfl rfl ?_
    refine wq_ic_lt rfl rfl hc (by decide) (fun h2 => ?_) (fun h2 => ?_)
    · skip
      unfold ev_s at h2
      refine wq_iload_n rfl rfl hc ?_
      refine wq_bipush rfl rfl ?_
      refine wq_ic_lt rfl rfl hc (by decide) (fun h3 => ?_) (fun h3 => ?_)
      · skip
        unfold ev_s at h3
        refine wq_iconst rfl rfl ?_
        refine wq_iret rfl (by decide) rfl ?_
        exact wq_k1 (by unfold lx_hex; rw [if_neg (by omega), if_neg (by omega), if_neg (by omega)])
      · skip
        unfold ev_s at h3
        refine wq_iload_n rfl rfl hc ?_
        refine wq_bipush rfl rfl ?_
        refine wq_ic_gt rfl rfl hc (by decide) (fun h4 => ?_) (fun h4 => ?_)
        · skip
          unfold ev_s at h4
          refine wq_iconst rfl rfl ?_
          refine wq_iret rfl (by decide) rfl ?_
          exact wq_k1 (by unfold lx_hex; rw [if_neg (by omega), if_neg (by omega), if_neg (by omega)])
        · skip
          unfold ev_s at h4
          refine wq_iload_n rfl rfl hc ?_
          refine wq_bipush rfl rfl ?_
          refine wq_isubZ rfl hc (by decide) (z := c - 65) (by omega) ?_
          refine wq_bipush rfl rfl ?_
          refine wq_iaddZ rfl (by omega) (by decide) (z := c - 55) (by omega) ?_
          refine wq_goto rfl rfl ?_
          refine wq_iret rfl (by omega) rfl ?_
          exact wq_k1 (by unfold lx_hex; rw [if_neg (by omega), if_neg (by omega), if_pos (by omega)])
    · skip
      unfold ev_s at h2
      refine wq_iload_n rfl rfl hc ?_
      refine wq_bipush rfl rfl ?_
      refine wq_ic_gt rfl rfl hc (by decide) (fun h5 => ?_) (fun h5 => ?_)
      · skip
        unfold ev_s at h5
        refine wq_iload_n rfl rfl hc ?_
        refine wq_bipush rfl rfl ?_
        refine wq_ic_lt rfl rfl hc (by decide) (fun h6 => ?_) (fun h6 => ?_)
        · skip
          unfold ev_s at h6
          refine wq_iconst rfl rfl ?_
          refine wq_iret rfl (by decide) rfl ?_
          exact wq_k1 (by unfold lx_hex; rw [if_neg (by omega), if_neg (by omega), if_neg (by omega)])
        · skip
          unfold ev_s at h6
          refine wq_iload_n rfl rfl hc ?_
          refine wq_bipush rfl rfl ?_
          refine wq_ic_gt rfl rfl hc (by decide) (fun h7 => ?_) (fun h7 => ?_)
          · skip
            unfold ev_s at h7
            refine wq_iconst rfl rfl ?_
            refine wq_iret rfl (by decide) rfl ?_
            exact wq_k1 (by unfold lx_hex; rw [if_neg (by omega), if_neg (by omega), if_neg (by omega)])
          · skip
            unfold ev_s at h7
            refine wq_iload_n rfl rfl hc ?_
            refine wq_bipush rfl rfl ?_
            refine wq_isubZ rfl hc (by decide) (z := c - 65) (by omega) ?_
            refine wq_bipush rfl rfl ?_
            refine wq_iaddZ rfl (by omega) (by decide) (z := c - 55) (by omega) ?_
            refine wq_goto rfl rfl ?_
            refine wq_iret rfl (by omega) rfl ?_
            exact wq_k1 (by unfold lx_hex; rw [if_neg (by omega), if_neg (by omega), if_pos (by omega)])
      · skip
        unfold ev_s at h5
        refine wq_iload_n rfl rfl hc ?_
        refine wq_bipush rfl rfl ?_
        refine wq_isubZ rfl hc (by decide) (z := c - 97) (by omega) ?_
        refine wq_bipush rfl rfl ?_
        refine wq_iaddZ rfl (by omega) (by decide) (z := c - 87) (by omega) ?_
        refine wq_iret rfl (by omega) rfl ?_
        exact wq_k1 (by unfold lx_hex; rw [if_neg (by omega), if_pos (by omega)])
  · skip
    refine wq_iload_n rfl rfl hc ?_
    refine wq_bipush rfl rfl ?_
    have hd9 := lx_digit9 (c := c) (by omega)
    refine wq_isubZ rfl hc (by decide) (z := c - 48) (by omega) ?_
    refine wq_iret rfl (by omega) rfl ?_
    exact wq_k1 (by unfold lx_hex; rw [if_pos (by omega)])
