/-! ===== 67: the reference's readSign (by wip/whole2/law67.py) ===== -/
def lx_alone (c : Nat) : Nat := if c = 43 ∨ c = 45 ∨ c = 42 ∨ c = 37 ∨ c = 38 ∨ c = 124 ∨ c = 126 ∨ c = 60 ∨ c = 62 ∨ c = 61 ∨ c = 35 ∨ c = 40 ∨ c = 41 ∨ c = 123 ∨ c = 125 ∨ c = 91 ∨ c = 93 ∨ c = 59 ∨ c = 58 ∨ c = 44 ∨ c = 46 then 1 else 0
theorem lx_alone2 (c : Nat) : lx_alone c < 2 := by
  unfold lx_alone
  split <;> decide
theorem lx_p0_lt (c e : Nat) : lx_p0 c e < 400 := by
  unfold lx_p0 lx_p1 lx_p2 lx_p3 lx_p4 lx_p5 lx_p6 lx_p7
  repeat' split
  all_goals decide
theorem wm_atG {F : wq_F} {T : Nat → Nat} {n : Nat} (hT : wm_T F) (h1 : F 1 = T) (h2 : F 0 2 = n) {d j : Nat} (hj : j < 2147483648) (hn : n ≤ 6000) : mq (d + 1) 28 [36893488147419103232, j] wm_sh F (wq_k (some (lx_at T n j)) wm_sh F) := by
  subst h1; subst h2
  exact wm_at hT hj hn
/-- kind, worth and end of a sign at a place -/
def lx_sign (T : Nat → Nat) (n p : Nat) : Nat × Nat × Nat := if lx_p0 (lx_at T n p) (lx_at T n (p + 1)) = 300 ∧ lx_at T n (p + 2) = 46 then (5, 18446744073709551616 + 301, p + 3) else if ¬ lx_p0 (lx_at T n p) (lx_at T n (p + 1)) = 0 then (5, ev_oI2l (lx_p0 (lx_at T n p) (lx_at T n (p + 1))), p + 2) else (if lx_alone (lx_at T n p) = 0 then 7 else 5, ev_oI2l (lx_at T n p), p + 1)
theorem wm_isAlone {F : wq_F} {d c : Nat} (hc : c < 4294967296) : mq (d + 1) 207 [c] wm_sh F (wq_k (some (lx_alone c)) wm_sh F) := by
  have e : ev_ent [c] = [c] := by
    rw [wm_entI hc]
    rfl
  refine mq_of (maxL := 1) (rt := (some .boolean)) (code := (ev_un al_mX12_isAlone.2.2.2.2)) (L := [c]) rfl (by rw [e]; exact Nat.le_of_ble_eq_true rfl) (by rw [e]; rfl) ?_
  refine wq_iload_n rfl rfl hc ?_
  by_cases h1 : 35 ≤ c
  case neg =>
    refine wq_tswD rfl hc (Or.inl (by unfold ev_si ev_s; omega)) rfl (tgt := 386) rfl ?_
    refine wq_iconst rfl rfl ?_
    refine wq_iret rfl (by decide) (by decide) ?_
    exact wq_k1 (by unfold lx_alone; rw [if_neg (by omega)])
  by_cases h2 : c = 35
  case pos =>
    refine wq_top h2 ?_
    refine wq_tsw rfl (by decide) (tgt := 384) rfl ?_
    refine wq_iconst rfl rfl ?_
    refine wq_iret rfl (by decide) (by decide) ?_
    exact wq_k1 (by unfold lx_alone; rw [if_pos (by omega)])
  have h3 : 36 ≤ c := by omega
  clear h2
  by_cases h4 : c = 36
  case pos =>
    refine wq_top h4 ?_
    refine wq_tsw rfl (by decide) (tgt := 386) rfl ?_
    refine wq_iconst rfl rfl ?_
    refine wq_iret rfl (by decide) (by decide) ?_
    exact wq_k1 (by unfold lx_alone; rw [if_neg (by omega)])
  have h5 : 37 ≤ c := by omega
  clear h4
  by_cases h6 : c = 37
  case pos =>
    refine wq_top h6 ?_
    refine wq_tsw rfl (by decide) (tgt := 384) rfl ?_
    refine wq_iconst rfl rfl ?_
    refine wq_iret rfl (by decide) (by decide) ?_
    exact wq_k1 (by unfold lx_alone; rw [if_pos (by omega)])
  have h7 : 38 ≤ c := by omega
  clear h6
  by_cases h8 : c = 38
  case pos =>
    refine wq_top h8 ?_
    refine wq_tsw rfl (by decide) (tgt := 384) rfl ?_
    refine wq_iconst rfl rfl ?_
    refine wq_iret rfl (by decide) (by decide) ?_
    exact wq_k1 (by unfold lx_alone; rw [if_pos (by omega)])
  have h9 : 39 ≤ c := by omega
  clear h8
  by_cases h10 : c = 39
  case pos =>
    refine wq_top h10 ?_
    refine wq_tsw rfl (by decide) (tgt := 386) rfl ?_
    refine wq_iconst rfl rfl ?_
    refine wq_iret rfl (by decide) (by decide) ?_
    exact wq_k1 (by unfold lx_alone; rw [if_neg (by omega)])
  have h11 : 40 ≤ c := by omega
  clear h10
  by_cases h12 : c = 40
  case pos =>
    refine wq_top h12 ?_
    refine wq_tsw rfl (by decide) (tgt := 384) rfl ?_
    refine wq_iconst rfl rfl ?_
    refine wq_iret rfl (by decide) (by decide) ?_
    exact wq_k1 (by unfold lx_alone; rw [if_pos (by omega)])
  have h13 : 41 ≤ c := by omega
  clear h12
  by_cases h14 : c = 41
  case pos =>
    refine wq_top h14 ?_
    refine wq_tsw rfl (by decide) (tgt := 384) rfl ?_
    refine wq_iconst rfl rfl ?_
    refine wq_iret rfl (by decide) (by decide) ?_
    exact wq_k1 (by unfold lx_alone; rw [if_pos (by omega)])
  have h15 : 42 ≤ c := by omega
  clear h14
  by_cases h16 : c = 42
  case pos =>
    refine wq_top h16 ?_
    refine wq_tsw rfl (by decide) (tgt := 384) rfl ?_
    refine wq_iconst rfl rfl ?_
    refine wq_iret rfl (by decide) (by decide) ?_
    exact wq_k1 (by unfold lx_alone; rw [if_pos (by omega)])
  have h17 : 43 ≤ c := by omega
  clear h16
  by_cases h18 : c = 43
  case pos =>
    refine wq_top h18 ?_
    refine wq_tsw rfl (by decide) (tgt := 384) rfl ?_
    refine wq_iconst rfl rfl ?_
    refine wq_iret rfl (by decide) (by decide) ?_
    exact wq_k1 (by unfold lx_alone; rw [if_pos (by omega)])
  have h19 : 44 ≤ c := by omega
  clear h18
  by_cases h20 : c = 44
  case pos =>
    refine wq_top h20 ?_
    refine wq_tsw rfl (by decide) (tgt := 384) rfl ?_
    refine wq_iconst rfl rfl ?_
    refine wq_iret rfl (by decide) (by decide) ?_
    exact wq_k1 (by unfold lx_alone; rw [if_pos (by omega)])
  have h21 : 45 ≤ c := by omega
  clear h20
  by_cases h22 : c = 45
  case pos =>
    refine wq_top h22 ?_
    refine wq_tsw rfl (by decide) (tgt := 384) rfl ?_
    refine wq_iconst rfl rfl ?_
    refine wq_iret rfl (by decide) (by decide) ?_
    exact wq_k1 (by unfold lx_alone; rw [if_pos (by omega)])
  have h23 : 46 ≤ c := by omega
  clear h22
  by_cases h24 : c = 46
  case pos =>
    refine wq_top h24 ?_
    refine wq_tsw rfl (by decide) (tgt := 384) rfl ?_
    refine wq_iconst rfl rfl ?_
    refine wq_iret rfl (by decide) (by decide) ?_
    exact wq_k1 (by unfold lx_alone; rw [if_pos (by omega)])
  have h25 : 47 ≤ c := by omega
  clear h24
  by_cases h26 : c = 47
  case pos =>
    refine wq_top h26 ?_
    refine wq_tsw rfl (by decide) (tgt := 386) rfl ?_
    refine wq_iconst rfl rfl ?_
    refine wq_iret rfl (by decide) (by decide) ?_
    exact wq_k1 (by unfold lx_alone; rw [if_neg (by omega)])
  have h27 : 48 ≤ c := by omega
  clear h26
  by_cases h28 : c = 48
  case pos =>
    refine wq_top h28 ?_
    refine wq_tsw rfl (by decide) (tgt := 386) rfl ?_
    refine wq_iconst rfl rfl ?_
    refine wq_iret rfl (by decide) (by decide) ?_
    exact wq_k1 (by unfold lx_alone; rw [if_neg (by omega)])
  have h29 : 49 ≤ c := by omega
  clear h28
  by_cases h30 : c = 49
  case pos =>
    refine wq_top h30 ?_
    refine wq_tsw rfl (by decide) (tgt := 386) rfl ?_
    refine wq_iconst rfl rfl ?_
    refine wq_iret rfl (by decide) (by decide) ?_
    exact wq_k1 (by unfold lx_alone; rw [if_neg (by omega)])
  have h31 : 50 ≤ c := by omega
  clear h30
  by_cases h32 : c = 50
  case pos =>
    refine wq_top h32 ?_
    refine wq_tsw rfl (by decide) (tgt := 386) rfl ?_
    refine wq_iconst rfl rfl ?_
    refine wq_iret rfl (by decide) (by decide) ?_
    exact wq_k1 (by unfold lx_alone; rw [if_neg (by omega)])
  have h33 : 51 ≤ c := by omega
  clear h32
  by_cases h34 : c = 51
  case pos =>
    refine wq_top h34 ?_
    refine wq_tsw rfl (by decide) (tgt := 386) rfl ?_
    refine wq_iconst rfl rfl ?_
    refine wq_iret rfl (by decide) (by decide) ?_
    exact wq_k1 (by unfold lx_alone; rw [if_neg (by omega)])
  have h35 : 52 ≤ c := by omega
  clear h34
  by_cases h36 : c = 52
  case pos =>
    refine wq_top h36 ?_
    refine wq_tsw rfl (by decide) (tgt := 386) rfl ?_
    refine wq_iconst rfl rfl ?_
    refine wq_iret rfl (by decide) (by decide) ?_
    exact wq_k1 (by unfold lx_alone; rw [if_neg (by omega)])
  have h37 : 53 ≤ c := by omega
  clear h36
  by_cases h38 : c = 53
  case pos =>
    refine wq_top h38 ?_
    refine wq_tsw rfl (by decide) (tgt := 386) rfl ?_
    refine wq_iconst rfl rfl ?_
    refine wq_iret rfl (by decide) (by decide) ?_
    exact wq_k1 (by unfold lx_alone; rw [if_neg (by omega)])
  have h39 : 54 ≤ c := by omega
  clear h38
  by_cases h40 : c = 54
  case pos =>
    refine wq_top h40 ?_
    refine wq_tsw rfl (by decide) (tgt := 386) rfl ?_
    refine wq_iconst rfl rfl ?_
    refine wq_iret rfl (by decide) (by decide) ?_
    exact wq_k1 (by unfold lx_alone; rw [if_neg (by omega)])
  have h41 : 55 ≤ c := by omega
  clear h40
  by_cases h42 : c = 55
  case pos =>
    refine wq_top h42 ?_
    refine wq_tsw rfl (by decide) (tgt := 386) rfl ?_
    refine wq_iconst rfl rfl ?_
    refine wq_iret rfl (by decide) (by decide) ?_
    exact wq_k1 (by unfold lx_alone; rw [if_neg (by omega)])
  have h43 : 56 ≤ c := by omega
  clear h42
  by_cases h44 : c = 56
  case pos =>
    refine wq_top h44 ?_
    refine wq_tsw rfl (by decide) (tgt := 386) rfl ?_
    refine wq_iconst rfl rfl ?_
    refine wq_iret rfl (by decide) (by decide) ?_
    exact wq_k1 (by unfold lx_alone; rw [if_neg (by omega)])
  have h45 : 57 ≤ c := by omega
  clear h44
  by_cases h46 : c = 57
  case pos =>
    refine wq_top h46 ?_
    refine wq_tsw rfl (by decide) (tgt := 386) rfl ?_
    refine wq_iconst rfl rfl ?_
    refine wq_iret rfl (by decide) (by decide) ?_
    exact wq_k1 (by unfold lx_alone; rw [if_neg (by omega)])
  have h47 : 58 ≤ c := by omega
  clear h46
  by_cases h48 : c = 58
  case pos =>
    refine wq_top h48 ?_
    refine wq_tsw rfl (by decide) (tgt := 384) rfl ?_
    refine wq_iconst rfl rfl ?_
    refine wq_iret rfl (by decide) (by decide) ?_
    exact wq_k1 (by unfold lx_alone; rw [if_pos (by omega)])
  have h49 : 59 ≤ c := by omega
  clear h48
  by_cases h50 : c = 59
  case pos =>
    refine wq_top h50 ?_
    refine wq_tsw rfl (by decide) (tgt := 384) rfl ?_
    refine wq_iconst rfl rfl ?_
    refine wq_iret rfl (by decide) (by decide) ?_
    exact wq_k1 (by unfold lx_alone; rw [if_pos (by omega)])
  have h51 : 60 ≤ c := by omega
  clear h50
  by_cases h52 : c = 60
  case pos =>
    refine wq_top h52 ?_
    refine wq_tsw rfl (by decide) (tgt := 384) rfl ?_
    refine wq_iconst rfl rfl ?_
    refine wq_iret rfl (by decide) (by decide) ?_
    exact wq_k1 (by unfold lx_alone; rw [if_pos (by omega)])
  have h53 : 61 ≤ c := by omega
  clear h52
  by_cases h54 : c = 61
  case pos =>
    refine wq_top h54 ?_
    refine wq_tsw rfl (by decide) (tgt := 384) rfl ?_
    refine wq_iconst rfl rfl ?_
    refine wq_iret rfl (by decide) (by decide) ?_
    exact wq_k1 (by unfold lx_alone; rw [if_pos (by omega)])
  have h55 : 62 ≤ c := by omega
  clear h54
  by_cases h56 : c = 62
  case pos =>
    refine wq_top h56 ?_
    refine wq_tsw rfl (by decide) (tgt := 384) rfl ?_
    refine wq_iconst rfl rfl ?_
    refine wq_iret rfl (by decide) (by decide) ?_
    exact wq_k1 (by unfold lx_alone; rw [if_pos (by omega)])
  have h57 : 63 ≤ c := by omega
  clear h56
  by_cases h58 : c = 63
  case pos =>
    refine wq_top h58 ?_
    refine wq_tsw rfl (by decide) (tgt := 386) rfl ?_
    refine wq_iconst rfl rfl ?_
    refine wq_iret rfl (by decide) (by decide) ?_
    exact wq_k1 (by unfold lx_alone; rw [if_neg (by omega)])
  have h59 : 64 ≤ c := by omega
  clear h58
  by_cases h60 : c = 64
  case pos =>
    refine wq_top h60 ?_
    refine wq_tsw rfl (by decide) (tgt := 386) rfl ?_
    refine wq_iconst rfl rfl ?_
    refine wq_iret rfl (by decide) (by decide) ?_
    exact wq_k1 (by unfold lx_alone; rw [if_neg (by omega)])
  have h61 : 65 ≤ c := by omega
  clear h60
  by_cases h62 : c = 65
  case pos =>
    refine wq_top h62 ?_
    refine wq_tsw rfl (by decide) (tgt := 386) rfl ?_
    refine wq_iconst rfl rfl ?_
    refine wq_iret rfl (by decide) (by decide) ?_
    exact wq_k1 (by unfold lx_alone; rw [if_neg (by omega)])
  have h63 : 66 ≤ c := by omega
  clear h62
  by_cases h64 : c = 66
  case pos =>
    refine wq_top h64 ?_
    refine wq_tsw rfl (by decide) (tgt := 386) rfl ?_
    refine wq_iconst rfl rfl ?_
    refine wq_iret rfl (by decide) (by decide) ?_
    exact wq_k1 (by unfold lx_alone; rw [if_neg (by omega)])
  have h65 : 67 ≤ c := by omega
  clear h64
  by_cases h66 : c = 67
  case pos =>
    refine wq_top h66 ?_
    refine wq_tsw rfl (by decide) (tgt := 386) rfl ?_
    refine wq_iconst rfl rfl ?_
    refine wq_iret rfl (by decide) (by decide) ?_
    exact wq_k1 (by unfold lx_alone; rw [if_neg (by omega)])
  have h67 : 68 ≤ c := by omega
  clear h66
  by_cases h68 : c = 68
  case pos =>
    refine wq_top h68 ?_
    refine wq_tsw rfl (by decide) (tgt := 386) rfl ?_
    refine wq_iconst rfl rfl ?_
    refine wq_iret rfl (by decide) (by decide) ?_
    exact wq_k1 (by unfold lx_alone; rw [if_neg (by omega)])
  have h69 : 69 ≤ c := by omega
  clear h68
  by_cases h70 : c = 69
  case pos =>
    refine wq_top h70 ?_
    refine wq_tsw rfl (by decide) (tgt := 386) rfl ?_
    refine wq_iconst rfl rfl ?_
    refine wq_iret rfl (by decide) (by decide) ?_
    exact wq_k1 (by unfold lx_alone; rw [if_neg (by omega)])
  have h71 : 70 ≤ c := by omega
  clear h70
  by_cases h72 : c = 70
  case pos =>
    refine wq_top h72 ?_
    refine wq_tsw rfl (by decide) (tgt := 386) rfl ?_
    refine wq_iconst rfl rfl ?_
    refine wq_iret rfl (by decide) (by decide) ?_
    exact wq_k1 (by unfold lx_alone; rw [if_neg (by omega)])
  have h73 : 71 ≤ c := by omega
  clear h72
  by_cases h74 : c = 71
  case pos =>
    refine wq_top h74 ?_
    refine wq_tsw rfl (by decide) (tgt := 386) rfl ?_
    refine wq_iconst rfl rfl ?_
    refine wq_iret rfl (by decide) (by decide) ?_
    exact wq_k1 (by unfold lx_alone; rw [if_neg (by omega)])
  have h75 : 72 ≤ c := by omega
  clear h74
  by_cases h76 : c = 72
  case pos =>
    refine wq_top h76 ?_
    refine wq_tsw rfl (by decide) (tgt := 386) rfl ?_
    refine wq_iconst rfl rfl ?_
    refine wq_iret rfl (by decide) (by decide) ?_
    exact wq_k1 (by unfold lx_alone; rw [if_neg (by omega)])
  have h77 : 73 ≤ c := by omega
  clear h76
  by_cases h78 : c = 73
  case pos =>
    refine wq_top h78 ?_
    refine wq_tsw rfl (by decide) (tgt := 386) rfl ?_
    refine wq_iconst rfl rfl ?_
    refine wq_iret rfl (by decide) (by decide) ?_
    exact wq_k1 (by unfold lx_alone; rw [if_neg (by omega)])
  have h79 : 74 ≤ c := by omega
  clear h78
  by_cases h80 : c = 74
  case pos =>
    refine wq_top h80 ?_
    refine wq_tsw rfl (by decide) (tgt := 386) rfl ?_
    refine wq_iconst rfl rfl ?_
    refine wq_iret rfl (by decide) (by decide) ?_
    exact wq_k1 (by unfold lx_alone; rw [if_neg (by omega)])
  have h81 : 75 ≤ c := by omega
  clear h80
  by_cases h82 : c = 75
  case pos =>
    refine wq_top h82 ?_
    refine wq_tsw rfl (by decide) (tgt := 386) rfl ?_
    refine wq_iconst rfl rfl ?_
    refine wq_iret rfl (by decide) (by decide) ?_
    exact wq_k1 (by unfold lx_alone; rw [if_neg (by omega)])
  have h83 : 76 ≤ c := by omega
  clear h82
  by_cases h84 : c = 76
  case pos =>
    refine wq_top h84 ?_
    refine wq_tsw rfl (by decide) (tgt := 386) rfl ?_
    refine wq_iconst rfl rfl ?_
    refine wq_iret rfl (by decide) (by decide) ?_
    exact wq_k1 (by unfold lx_alone; rw [if_neg (by omega)])
  have h85 : 77 ≤ c := by omega
  clear h84
  by_cases h86 : c = 77
  case pos =>
    refine wq_top h86 ?_
    refine wq_tsw rfl (by decide) (tgt := 386) rfl ?_
    refine wq_iconst rfl rfl ?_
    refine wq_iret rfl (by decide) (by decide) ?_
    exact wq_k1 (by unfold lx_alone; rw [if_neg (by omega)])
  have h87 : 78 ≤ c := by omega
  clear h86
  by_cases h88 : c = 78
  case pos =>
    refine wq_top h88 ?_
    refine wq_tsw rfl (by decide) (tgt := 386) rfl ?_
    refine wq_iconst rfl rfl ?_
    refine wq_iret rfl (by decide) (by decide) ?_
    exact wq_k1 (by unfold lx_alone; rw [if_neg (by omega)])
  have h89 : 79 ≤ c := by omega
  clear h88
  by_cases h90 : c = 79
  case pos =>
    refine wq_top h90 ?_
    refine wq_tsw rfl (by decide) (tgt := 386) rfl ?_
    refine wq_iconst rfl rfl ?_
    refine wq_iret rfl (by decide) (by decide) ?_
    exact wq_k1 (by unfold lx_alone; rw [if_neg (by omega)])
  have h91 : 80 ≤ c := by omega
  clear h90
  by_cases h92 : c = 80
  case pos =>
    refine wq_top h92 ?_
    refine wq_tsw rfl (by decide) (tgt := 386) rfl ?_
    refine wq_iconst rfl rfl ?_
    refine wq_iret rfl (by decide) (by decide) ?_
    exact wq_k1 (by unfold lx_alone; rw [if_neg (by omega)])
  have h93 : 81 ≤ c := by omega
  clear h92
  by_cases h94 : c = 81
  case pos =>
    refine wq_top h94 ?_
    refine wq_tsw rfl (by decide) (tgt := 386) rfl ?_
    refine wq_iconst rfl rfl ?_
    refine wq_iret rfl (by decide) (by decide) ?_
    exact wq_k1 (by unfold lx_alone; rw [if_neg (by omega)])
  have h95 : 82 ≤ c := by omega
  clear h94
  by_cases h96 : c = 82
  case pos =>
    refine wq_top h96 ?_
    refine wq_tsw rfl (by decide) (tgt := 386) rfl ?_
    refine wq_iconst rfl rfl ?_
    refine wq_iret rfl (by decide) (by decide) ?_
    exact wq_k1 (by unfold lx_alone; rw [if_neg (by omega)])
  have h97 : 83 ≤ c := by omega
  clear h96
  by_cases h98 : c = 83
  case pos =>
    refine wq_top h98 ?_
    refine wq_tsw rfl (by decide) (tgt := 386) rfl ?_
    refine wq_iconst rfl rfl ?_
    refine wq_iret rfl (by decide) (by decide) ?_
    exact wq_k1 (by unfold lx_alone; rw [if_neg (by omega)])
  have h99 : 84 ≤ c := by omega
  clear h98
  by_cases h100 : c = 84
  case pos =>
    refine wq_top h100 ?_
    refine wq_tsw rfl (by decide) (tgt := 386) rfl ?_
    refine wq_iconst rfl rfl ?_
    refine wq_iret rfl (by decide) (by decide) ?_
    exact wq_k1 (by unfold lx_alone; rw [if_neg (by omega)])
  have h101 : 85 ≤ c := by omega
  clear h100
  by_cases h102 : c = 85
  case pos =>
    refine wq_top h102 ?_
    refine wq_tsw rfl (by decide) (tgt := 386) rfl ?_
    refine wq_iconst rfl rfl ?_
    refine wq_iret rfl (by decide) (by decide) ?_
    exact wq_k1 (by unfold lx_alone; rw [if_neg (by omega)])
  have h103 : 86 ≤ c := by omega
  clear h102
  by_cases h104 : c = 86
  case pos =>
    refine wq_top h104 ?_
    refine wq_tsw rfl (by decide) (tgt := 386) rfl ?_
    refine wq_iconst rfl rfl ?_
    refine wq_iret rfl (by decide) (by decide) ?_
    exact wq_k1 (by unfold lx_alone; rw [if_neg (by omega)])
  have h105 : 87 ≤ c := by omega
  clear h104
  by_cases h106 : c = 87
  case pos =>
    refine wq_top h106 ?_
    refine wq_tsw rfl (by decide) (tgt := 386) rfl ?_
    refine wq_iconst rfl rfl ?_
    refine wq_iret rfl (by decide) (by decide) ?_
    exact wq_k1 (by unfold lx_alone; rw [if_neg (by omega)])
  have h107 : 88 ≤ c := by omega
  clear h106
  by_cases h108 : c = 88
  case pos =>
    refine wq_top h108 ?_
    refine wq_tsw rfl (by decide) (tgt := 386) rfl ?_
    refine wq_iconst rfl rfl ?_
    refine wq_iret rfl (by decide) (by decide) ?_
    exact wq_k1 (by unfold lx_alone; rw [if_neg (by omega)])
  have h109 : 89 ≤ c := by omega
  clear h108
  by_cases h110 : c = 89
  case pos =>
    refine wq_top h110 ?_
    refine wq_tsw rfl (by decide) (tgt := 386) rfl ?_
    refine wq_iconst rfl rfl ?_
    refine wq_iret rfl (by decide) (by decide) ?_
    exact wq_k1 (by unfold lx_alone; rw [if_neg (by omega)])
  have h111 : 90 ≤ c := by omega
  clear h110
  by_cases h112 : c = 90
  case pos =>
    refine wq_top h112 ?_
    refine wq_tsw rfl (by decide) (tgt := 386) rfl ?_
    refine wq_iconst rfl rfl ?_
    refine wq_iret rfl (by decide) (by decide) ?_
    exact wq_k1 (by unfold lx_alone; rw [if_neg (by omega)])
  have h113 : 91 ≤ c := by omega
  clear h112
  by_cases h114 : c = 91
  case pos =>
    refine wq_top h114 ?_
    refine wq_tsw rfl (by decide) (tgt := 384) rfl ?_
    refine wq_iconst rfl rfl ?_
    refine wq_iret rfl (by decide) (by decide) ?_
    exact wq_k1 (by unfold lx_alone; rw [if_pos (by omega)])
  have h115 : 92 ≤ c := by omega
  clear h114
  by_cases h116 : c = 92
  case pos =>
    refine wq_top h116 ?_
    refine wq_tsw rfl (by decide) (tgt := 386) rfl ?_
    refine wq_iconst rfl rfl ?_
    refine wq_iret rfl (by decide) (by decide) ?_
    exact wq_k1 (by unfold lx_alone; rw [if_neg (by omega)])
  have h117 : 93 ≤ c := by omega
  clear h116
  by_cases h118 : c = 93
  case pos =>
    refine wq_top h118 ?_
    refine wq_tsw rfl (by decide) (tgt := 384) rfl ?_
    refine wq_iconst rfl rfl ?_
    refine wq_iret rfl (by decide) (by decide) ?_
    exact wq_k1 (by unfold lx_alone; rw [if_pos (by omega)])
  have h119 : 94 ≤ c := by omega
  clear h118
  by_cases h120 : c = 94
  case pos =>
    refine wq_top h120 ?_
    refine wq_tsw rfl (by decide) (tgt := 386) rfl ?_
    refine wq_iconst rfl rfl ?_
    refine wq_iret rfl (by decide) (by decide) ?_
    exact wq_k1 (by unfold lx_alone; rw [if_neg (by omega)])
  have h121 : 95 ≤ c := by omega
  clear h120
  by_cases h122 : c = 95
  case pos =>
    refine wq_top h122 ?_
    refine wq_tsw rfl (by decide) (tgt := 386) rfl ?_
    refine wq_iconst rfl rfl ?_
    refine wq_iret rfl (by decide) (by decide) ?_
    exact wq_k1 (by unfold lx_alone; rw [if_neg (by omega)])
  have h123 : 96 ≤ c := by omega
  clear h122
  by_cases h124 : c = 96
  case pos =>
    refine wq_top h124 ?_
    refine wq_tsw rfl (by decide) (tgt := 386) rfl ?_
    refine wq_iconst rfl rfl ?_
    refine wq_iret rfl (by decide) (by decide) ?_
    exact wq_k1 (by unfold lx_alone; rw [if_neg (by omega)])
  have h125 : 97 ≤ c := by omega
  clear h124
  by_cases h126 : c = 97
  case pos =>
    refine wq_top h126 ?_
    refine wq_tsw rfl (by decide) (tgt := 386) rfl ?_
    refine wq_iconst rfl rfl ?_
    refine wq_iret rfl (by decide) (by decide) ?_
    exact wq_k1 (by unfold lx_alone; rw [if_neg (by omega)])
  have h127 : 98 ≤ c := by omega
  clear h126
  by_cases h128 : c = 98
  case pos =>
    refine wq_top h128 ?_
    refine wq_tsw rfl (by decide) (tgt := 386) rfl ?_
    refine wq_iconst rfl rfl ?_
    refine wq_iret rfl (by decide) (by decide) ?_
    exact wq_k1 (by unfold lx_alone; rw [if_neg (by omega)])
  have h129 : 99 ≤ c := by omega
  clear h128
  by_cases h130 : c = 99
  case pos =>
    refine wq_top h130 ?_
    refine wq_tsw rfl (by decide) (tgt := 386) rfl ?_
    refine wq_iconst rfl rfl ?_
    refine wq_iret rfl (by decide) (by decide) ?_
    exact wq_k1 (by unfold lx_alone; rw [if_neg (by omega)])
  have h131 : 100 ≤ c := by omega
  clear h130
  by_cases h132 : c = 100
  case pos =>
    refine wq_top h132 ?_
    refine wq_tsw rfl (by decide) (tgt := 386) rfl ?_
    refine wq_iconst rfl rfl ?_
    refine wq_iret rfl (by decide) (by decide) ?_
    exact wq_k1 (by unfold lx_alone; rw [if_neg (by omega)])
  have h133 : 101 ≤ c := by omega
  clear h132
  by_cases h134 : c = 101
  case pos =>
    refine wq_top h134 ?_
    refine wq_tsw rfl (by decide) (tgt := 386) rfl ?_
    refine wq_iconst rfl rfl ?_
    refine wq_iret rfl (by decide) (by decide) ?_
    exact wq_k1 (by unfold lx_alone; rw [if_neg (by omega)])
  have h135 : 102 ≤ c := by omega
  clear h134
  by_cases h136 : c = 102
  case pos =>
    refine wq_top h136 ?_
    refine wq_tsw rfl (by decide) (tgt := 386) rfl ?_
    refine wq_iconst rfl rfl ?_
    refine wq_iret rfl (by decide) (by decide) ?_
    exact wq_k1 (by unfold lx_alone; rw [if_neg (by omega)])
  have h137 : 103 ≤ c := by omega
  clear h136
  by_cases h138 : c = 103
  case pos =>
    refine wq_top h138 ?_
    refine wq_tsw rfl (by decide) (tgt := 386) rfl ?_
    refine wq_iconst rfl rfl ?_
    refine wq_iret rfl (by decide) (by decide) ?_
    exact wq_k1 (by unfold lx_alone; rw [if_neg (by omega)])
  have h139 : 104 ≤ c := by omega
  clear h138
  by_cases h140 : c = 104
  case pos =>
    refine wq_top h140 ?_
    refine wq_tsw rfl (by decide) (tgt := 386) rfl ?_
    refine wq_iconst rfl rfl ?_
    refine wq_iret rfl (by decide) (by decide) ?_
    exact wq_k1 (by unfold lx_alone; rw [if_neg (by omega)])
  have h141 : 105 ≤ c := by omega
  clear h140
  by_cases h142 : c = 105
  case pos =>
    refine wq_top h142 ?_
    refine wq_tsw rfl (by decide) (tgt := 386) rfl ?_
    refine wq_iconst rfl rfl ?_
    refine wq_iret rfl (by decide) (by decide) ?_
    exact wq_k1 (by unfold lx_alone; rw [if_neg (by omega)])
  have h143 : 106 ≤ c := by omega
  clear h142
  by_cases h144 : c = 106
  case pos =>
    refine wq_top h144 ?_
    refine wq_tsw rfl (by decide) (tgt := 386) rfl ?_
    refine wq_iconst rfl rfl ?_
    refine wq_iret rfl (by decide) (by decide) ?_
    exact wq_k1 (by unfold lx_alone; rw [if_neg (by omega)])
  have h145 : 107 ≤ c := by omega
  clear h144
  by_cases h146 : c = 107
  case pos =>
    refine wq_top h146 ?_
    refine wq_tsw rfl (by decide) (tgt := 386) rfl ?_
    refine wq_iconst rfl rfl ?_
    refine wq_iret rfl (by decide) (by decide) ?_
    exact wq_k1 (by unfold lx_alone; rw [if_neg (by omega)])
  have h147 : 108 ≤ c := by omega
  clear h146
  by_cases h148 : c = 108
  case pos =>
    refine wq_top h148 ?_
    refine wq_tsw rfl (by decide) (tgt := 386) rfl ?_
    refine wq_iconst rfl rfl ?_
    refine wq_iret rfl (by decide) (by decide) ?_
    exact wq_k1 (by unfold lx_alone; rw [if_neg (by omega)])
  have h149 : 109 ≤ c := by omega
  clear h148
  by_cases h150 : c = 109
  case pos =>
    refine wq_top h150 ?_
    refine wq_tsw rfl (by decide) (tgt := 386) rfl ?_
    refine wq_iconst rfl rfl ?_
    refine wq_iret rfl (by decide) (by decide) ?_
    exact wq_k1 (by unfold lx_alone; rw [if_neg (by omega)])
  have h151 : 110 ≤ c := by omega
  clear h150
  by_cases h152 : c = 110
  case pos =>
    refine wq_top h152 ?_
    refine wq_tsw rfl (by decide) (tgt := 386) rfl ?_
    refine wq_iconst rfl rfl ?_
    refine wq_iret rfl (by decide) (by decide) ?_
    exact wq_k1 (by unfold lx_alone; rw [if_neg (by omega)])
  have h153 : 111 ≤ c := by omega
  clear h152
  by_cases h154 : c = 111
  case pos =>
    refine wq_top h154 ?_
    refine wq_tsw rfl (by decide) (tgt := 386) rfl ?_
    refine wq_iconst rfl rfl ?_
    refine wq_iret rfl (by decide) (by decide) ?_
    exact wq_k1 (by unfold lx_alone; rw [if_neg (by omega)])
  have h155 : 112 ≤ c := by omega
  clear h154
  by_cases h156 : c = 112
  case pos =>
    refine wq_top h156 ?_
    refine wq_tsw rfl (by decide) (tgt := 386) rfl ?_
    refine wq_iconst rfl rfl ?_
    refine wq_iret rfl (by decide) (by decide) ?_
    exact wq_k1 (by unfold lx_alone; rw [if_neg (by omega)])
  have h157 : 113 ≤ c := by omega
  clear h156
  by_cases h158 : c = 113
  case pos =>
    refine wq_top h158 ?_
    refine wq_tsw rfl (by decide) (tgt := 386) rfl ?_
    refine wq_iconst rfl rfl ?_
    refine wq_iret rfl (by decide) (by decide) ?_
    exact wq_k1 (by unfold lx_alone; rw [if_neg (by omega)])
  have h159 : 114 ≤ c := by omega
  clear h158
  by_cases h160 : c = 114
  case pos =>
    refine wq_top h160 ?_
    refine wq_tsw rfl (by decide) (tgt := 386) rfl ?_
    refine wq_iconst rfl rfl ?_
    refine wq_iret rfl (by decide) (by decide) ?_
    exact wq_k1 (by unfold lx_alone; rw [if_neg (by omega)])
  have h161 : 115 ≤ c := by omega
  clear h160
  by_cases h162 : c = 115
  case pos =>
    refine wq_top h162 ?_
    refine wq_tsw rfl (by decide) (tgt := 386) rfl ?_
    refine wq_iconst rfl rfl ?_
    refine wq_iret rfl (by decide) (by decide) ?_
    exact wq_k1 (by unfold lx_alone; rw [if_neg (by omega)])
  have h163 : 116 ≤ c := by omega
  clear h162
  by_cases h164 : c = 116
  case pos =>
    refine wq_top h164 ?_
    refine wq_tsw rfl (by decide) (tgt := 386) rfl ?_
    refine wq_iconst rfl rfl ?_
    refine wq_iret rfl (by decide) (by decide) ?_
    exact wq_k1 (by unfold lx_alone; rw [if_neg (by omega)])
  have h165 : 117 ≤ c := by omega
  clear h164
  by_cases h166 : c = 117
  case pos =>
    refine wq_top h166 ?_
    refine wq_tsw rfl (by decide) (tgt := 386) rfl ?_
    refine wq_iconst rfl rfl ?_
    refine wq_iret rfl (by decide) (by decide) ?_
    exact wq_k1 (by unfold lx_alone; rw [if_neg (by omega)])
  have h167 : 118 ≤ c := by omega
  clear h166
  by_cases h168 : c = 118
  case pos =>
    refine wq_top h168 ?_
    refine wq_tsw rfl (by decide) (tgt := 386) rfl ?_
    refine wq_iconst rfl rfl ?_
    refine wq_iret rfl (by decide) (by decide) ?_
    exact wq_k1 (by unfold lx_alone; rw [if_neg (by omega)])
  have h169 : 119 ≤ c := by omega
  clear h168
  by_cases h170 : c = 119
  case pos =>
    refine wq_top h170 ?_
    refine wq_tsw rfl (by decide) (tgt := 386) rfl ?_
    refine wq_iconst rfl rfl ?_
    refine wq_iret rfl (by decide) (by decide) ?_
    exact wq_k1 (by unfold lx_alone; rw [if_neg (by omega)])
  have h171 : 120 ≤ c := by omega
  clear h170
  by_cases h172 : c = 120
  case pos =>
    refine wq_top h172 ?_
    refine wq_tsw rfl (by decide) (tgt := 386) rfl ?_
    refine wq_iconst rfl rfl ?_
    refine wq_iret rfl (by decide) (by decide) ?_
    exact wq_k1 (by unfold lx_alone; rw [if_neg (by omega)])
  have h173 : 121 ≤ c := by omega
  clear h172
  by_cases h174 : c = 121
  case pos =>
    refine wq_top h174 ?_
    refine wq_tsw rfl (by decide) (tgt := 386) rfl ?_
    refine wq_iconst rfl rfl ?_
    refine wq_iret rfl (by decide) (by decide) ?_
    exact wq_k1 (by unfold lx_alone; rw [if_neg (by omega)])
  have h175 : 122 ≤ c := by omega
  clear h174
  by_cases h176 : c = 122
  case pos =>
    refine wq_top h176 ?_
    refine wq_tsw rfl (by decide) (tgt := 386) rfl ?_
    refine wq_iconst rfl rfl ?_
    refine wq_iret rfl (by decide) (by decide) ?_
    exact wq_k1 (by unfold lx_alone; rw [if_neg (by omega)])
  have h177 : 123 ≤ c := by omega
  clear h176
  by_cases h178 : c = 123
  case pos =>
    refine wq_top h178 ?_
    refine wq_tsw rfl (by decide) (tgt := 384) rfl ?_
    refine wq_iconst rfl rfl ?_
    refine wq_iret rfl (by decide) (by decide) ?_
    exact wq_k1 (by unfold lx_alone; rw [if_pos (by omega)])
  have h179 : 124 ≤ c := by omega
  clear h178
  by_cases h180 : c = 124
  case pos =>
    refine wq_top h180 ?_
    refine wq_tsw rfl (by decide) (tgt := 384) rfl ?_
    refine wq_iconst rfl rfl ?_
    refine wq_iret rfl (by decide) (by decide) ?_
    exact wq_k1 (by unfold lx_alone; rw [if_pos (by omega)])
  have h181 : 125 ≤ c := by omega
  clear h180
  by_cases h182 : c = 125
  case pos =>
    refine wq_top h182 ?_
    refine wq_tsw rfl (by decide) (tgt := 384) rfl ?_
    refine wq_iconst rfl rfl ?_
    refine wq_iret rfl (by decide) (by decide) ?_
    exact wq_k1 (by unfold lx_alone; rw [if_pos (by omega)])
  have h183 : 126 ≤ c := by omega
  clear h182
  by_cases h184 : c = 126
  case pos =>
    refine wq_top h184 ?_
    refine wq_tsw rfl (by decide) (tgt := 384) rfl ?_
    refine wq_iconst rfl rfl ?_
    refine wq_iret rfl (by decide) (by decide) ?_
    exact wq_k1 (by unfold lx_alone; rw [if_pos (by omega)])
  have h185 : 127 ≤ c := by omega
  clear h184
  refine wq_tswD rfl hc (by unfold ev_si ev_s; omega) rfl (tgt := 386) rfl ?_
  refine wq_iconst rfl rfl ?_
  refine wq_iret rfl (by decide) (by decide) ?_
  exact wq_k1 (by unfold lx_alone; rw [if_neg (by omega)])
theorem wm_readSign {G : wq_F} {T : Nat → Nat} {n p : Nat} (hTG : wm_T G) (hG1 : G 1 = T) (hG2 : G 0 2 = n) (hn : n ≤ 6000) (hp : p < n) (hC : ∀ i, i < n → T i < 256) {d : Nat} : mq (d + 2) 208 [36893488147419103232, p] wm_sh G (wq_k none wm_sh (wq_up (wq_up (wq_up G 0 67 (lx_sign T n p).1) 0 68 (lx_sign T n p).2.1) 0 69 (lx_sign T n p).2.2)) := by
  have hat : ∀ j, lx_at T n j < 4294967296 := fun j => lx_at_lt hC j
  have e : ev_ent [36893488147419103232, p] = [36893488147419103232, p] := by
    show 36893488147419103232 :: ev_ent [p] = _
    rw [wm_entI (show p < 4294967296 by omega)]
    rfl
  refine mq_of (maxL := 4) (rt := none) (code := (ev_un al_mX12_readSign.2.2.2.2)) (L := [36893488147419103232, p, 73786976294838206464, 73786976294838206464]) rfl (by rw [e]; exact Nat.le_of_ble_eq_true rfl) (by rw [e]; rfl) ?_
  refine wq_aload_n rfl rfl rfl ?_
  refine wq_iload_n rfl rfl (show p < 4294967296 by omega) ?_
  refine wm_virtI (as := [36893488147419103232, p]) rfl rfl (by decide) (Nat.le_of_ble_eq_true rfl) rfl (Nat.le_of_ble_eq_true rfl) rfl (wm_atG hTG hG1 hG2 (show p < 2147483648 by omega) hn) ?_
  refine wq_istore_n rfl (hat p) (Nat.le_of_ble_eq_true rfl) (Or.inr ⟨_, rfl, (wq_notL (show p < 4294967296 by omega))⟩) (L' := [36893488147419103232, p, lx_at T n p, 73786976294838206464]) rfl ?_
  refine wq_iload_n rfl rfl (hat p) ?_
  refine wq_aload_n rfl rfl rfl ?_
  refine wq_iload_n rfl rfl (show p < 4294967296 by omega) ?_
  refine wq_iconst rfl rfl ?_
  refine wq_iaddZ rfl (show p < 4294967296 by omega) (by decide) (z := p + 1) (by omega) ?_
  refine wm_virtI (as := [36893488147419103232, p + 1]) rfl rfl (by decide) (Nat.le_of_ble_eq_true rfl) rfl (Nat.le_of_ble_eq_true rfl) rfl (wm_atG hTG hG1 hG2 (show p + 1 < 2147483648 by omega) hn) ?_
  refine wm_statI (as := [lx_at T n p, lx_at T n (p + 1)]) rfl (by decide) (Nat.le_of_ble_eq_true rfl) rfl (Nat.le_of_ble_eq_true rfl) rfl (wm_pair (hat p) (hat (p + 1))) ?_
  refine wq_istore_n rfl (Nat.lt_trans (lx_p0_lt _ _) (by decide)) (Nat.le_of_ble_eq_true rfl) (Or.inr ⟨_, rfl, (wq_notL (hat p))⟩) (L' := [36893488147419103232, p, lx_at T n p, lx_p0 (lx_at T n p) (lx_at T n (p + 1))]) rfl ?_
  refine wq_aload_n rfl rfl rfl ?_
  refine wq_iconst rfl rfl ?_
  refine wm_put rfl (by decide) (wq_I (by decide)) ?_
  have hT1 := hTG.uf (f := 67) (c := 0) (v := 5) rfl (show 5 < 4294967296 from (by decide))
  refine wq_iload_n rfl rfl (Nat.lt_trans (lx_p0_lt _ _) (by decide)) ?_
  refine wq_sipush rfl rfl ?_
  refine wq_ic_ne rfl rfl (Nat.lt_trans (lx_p0_lt _ _) (by decide)) (by decide) (fun h2 => ?_) (fun h2 => ?_)
  · skip
    refine wq_iload_n rfl rfl (Nat.lt_trans (lx_p0_lt _ _) (by decide)) ?_
    refine wq_if_le rfl rfl (Nat.lt_trans (lx_p0_lt _ _) (by decide)) (fun h3 => ?_) (fun h3 => ?_)
    · skip
      refine wq_aload_n rfl rfl rfl ?_
      refine wq_iload_n rfl rfl (hat p) ?_
      refine wm_statI (as := [lx_at T n p]) rfl (by decide) (Nat.le_of_ble_eq_true rfl) rfl (Nat.le_of_ble_eq_true rfl) rfl (wm_isAlone (hat p)) ?_
      refine wq_if_eq rfl rfl (wm_zlt (lx_alone2 _)) (fun h4 => ?_) (fun h4 => ?_)
      · skip
        refine wq_bipush rfl rfl ?_
        refine wm_put rfl (by decide) (wq_I (by decide)) ?_
        have hT5 := hT1.uf (f := 67) (c := 0) (v := 7) rfl (show 7 < 4294967296 from (by decide))
        refine wq_aload_n rfl rfl rfl ?_
        refine wq_iload_n rfl rfl (hat p) ?_
        refine wq_i2l rfl (hat p) ?_
        refine wm_put rfl (by decide) (wq_i2l_L (hat p)) ?_
        have hT6 := hT5.uf (f := 68) (c := 10) (v := ev_oI2l (lx_at T n p)) rfl (show ev_isL (ev_oI2l (lx_at T n p)) = true from (wq_i2l_L (hat p)))
        refine wq_aload_n rfl rfl rfl ?_
        refine wq_iload_n rfl rfl (show p < 4294967296 by omega) ?_
        refine wq_iconst rfl rfl ?_
        refine wq_iaddZ rfl (show p < 4294967296 by omega) (by decide) (z := p + 1) (by omega) ?_
        refine wm_put rfl (by decide) (wq_I (by omega)) ?_
        have hT7 := hT6.uf (f := 69) (c := 0) (v := p + 1) rfl (show p + 1 < 4294967296 from (by omega))
        have hp0 := lx_p0_lt (lx_at T n p) (lx_at T n (p + 1))
        refine wq_ret rfl ?_
        try rw [wq_upup]
        unfold lx_sign
        first | (rw [if_pos ⟨by omega, by omega⟩]; exact wq_k0) | (rw [if_neg (by omega), if_pos (by omega)]; exact wq_k0) | (rw [if_neg (by omega), if_neg (by omega), if_pos (by omega)]; exact wq_k0) | (rw [if_neg (by omega), if_neg (by omega), if_neg (by omega)]; exact wq_k0)
      · skip
        refine wq_iconst rfl rfl ?_
        refine wq_goto rfl rfl ?_
        refine wm_put rfl (by decide) (wq_I (by decide)) ?_
        have hT8 := hT1.uf (f := 67) (c := 0) (v := 5) rfl (show 5 < 4294967296 from (by decide))
        refine wq_aload_n rfl rfl rfl ?_
        refine wq_iload_n rfl rfl (hat p) ?_
        refine wq_i2l rfl (hat p) ?_
        refine wm_put rfl (by decide) (wq_i2l_L (hat p)) ?_
        have hT9 := hT8.uf (f := 68) (c := 10) (v := ev_oI2l (lx_at T n p)) rfl (show ev_isL (ev_oI2l (lx_at T n p)) = true from (wq_i2l_L (hat p)))
        refine wq_aload_n rfl rfl rfl ?_
        refine wq_iload_n rfl rfl (show p < 4294967296 by omega) ?_
        refine wq_iconst rfl rfl ?_
        refine wq_iaddZ rfl (show p < 4294967296 by omega) (by decide) (z := p + 1) (by omega) ?_
        refine wm_put rfl (by decide) (wq_I (by omega)) ?_
        have hT10 := hT9.uf (f := 69) (c := 0) (v := p + 1) rfl (show p + 1 < 4294967296 from (by omega))
        have hp0 := lx_p0_lt (lx_at T n p) (lx_at T n (p + 1))
        refine wq_ret rfl ?_
        try rw [wq_upup]
        unfold lx_sign
        first | (rw [if_pos ⟨by omega, by omega⟩]; exact wq_k0) | (rw [if_neg (by omega), if_pos (by omega)]; exact wq_k0) | (rw [if_neg (by omega), if_neg (by omega), if_pos (by omega)]; exact wq_k0) | (rw [if_neg (by omega), if_neg (by omega), if_neg (by omega)]; exact wq_k0)
    · skip
      refine wq_aload_n rfl rfl rfl ?_
      refine wq_iload_n rfl rfl (Nat.lt_trans (lx_p0_lt _ _) (by decide)) ?_
      refine wq_i2l rfl (Nat.lt_trans (lx_p0_lt _ _) (by decide)) ?_
      refine wm_put rfl (by decide) (wq_i2l_L (Nat.lt_trans (lx_p0_lt _ _) (by decide))) ?_
      have hT11 := hT1.uf (f := 68) (c := 10) (v := ev_oI2l (lx_p0 (lx_at T n p) (lx_at T n (p + 1)))) rfl (show ev_isL (ev_oI2l (lx_p0 (lx_at T n p) (lx_at T n (p + 1)))) = true from (wq_i2l_L (Nat.lt_trans (lx_p0_lt _ _) (by decide))))
      refine wq_aload_n rfl rfl rfl ?_
      refine wq_iload_n rfl rfl (show p < 4294967296 by omega) ?_
      refine wq_iconst rfl rfl ?_
      refine wq_iaddZ rfl (show p < 4294967296 by omega) (by decide) (z := p + 2) (by omega) ?_
      refine wm_put rfl (by decide) (wq_I (by omega)) ?_
      have hT12 := hT11.uf (f := 69) (c := 0) (v := p + 2) rfl (show p + 2 < 4294967296 from (by omega))
      refine wq_goto rfl rfl ?_
      have hp0 := lx_p0_lt (lx_at T n p) (lx_at T n (p + 1))
      refine wq_ret rfl ?_
      try rw [wq_upup]
      unfold lx_sign
      first | (rw [if_pos ⟨by omega, by omega⟩]; exact wq_k0) | (rw [if_neg (by omega), if_pos (by omega)]; exact wq_k0) | (rw [if_neg (by omega), if_neg (by omega), if_pos (by omega)]; exact wq_k0) | (rw [if_neg (by omega), if_neg (by omega), if_neg (by omega)]; exact wq_k0)
  · skip
    refine wq_aload_n rfl rfl rfl ?_
    refine wq_iload_n rfl rfl (show p < 4294967296 by omega) ?_
    refine wq_iconst rfl rfl ?_
    refine wq_iaddZ rfl (show p < 4294967296 by omega) (by decide) (z := p + 2) (by omega) ?_
    refine wm_virtI (as := [36893488147419103232, p + 2]) rfl rfl (by decide) (Nat.le_of_ble_eq_true rfl) rfl (Nat.le_of_ble_eq_true rfl) rfl (wm_atG hT1 ((funext fun i => wq_up_cell (by decide)).trans hG1) ((wq_up_at (by decide)).trans hG2) (show p + 2 < 2147483648 by omega) hn) ?_
    refine wq_bipush rfl rfl ?_
    refine wq_ic_ne rfl rfl (hat (p + 2)) (by decide) (fun h13 => ?_) (fun h13 => ?_)
    · skip
      refine wq_iload_n rfl rfl (Nat.lt_trans (lx_p0_lt _ _) (by decide)) ?_
      refine wq_if_le rfl rfl (Nat.lt_trans (lx_p0_lt _ _) (by decide)) (fun h14 => ?_) (fun h14 => ?_)
      · skip
        refine wq_aload_n rfl rfl rfl ?_
        refine wq_iload_n rfl rfl (hat p) ?_
        refine wm_statI (as := [lx_at T n p]) rfl (by decide) (Nat.le_of_ble_eq_true rfl) rfl (Nat.le_of_ble_eq_true rfl) rfl (wm_isAlone (hat p)) ?_
        refine wq_if_eq rfl rfl (wm_zlt (lx_alone2 _)) (fun h15 => ?_) (fun h15 => ?_)
        · skip
          refine wq_bipush rfl rfl ?_
          refine wm_put rfl (by decide) (wq_I (by decide)) ?_
          have hT16 := hT1.uf (f := 67) (c := 0) (v := 7) rfl (show 7 < 4294967296 from (by decide))
          refine wq_aload_n rfl rfl rfl ?_
          refine wq_iload_n rfl rfl (hat p) ?_
          refine wq_i2l rfl (hat p) ?_
          refine wm_put rfl (by decide) (wq_i2l_L (hat p)) ?_
          have hT17 := hT16.uf (f := 68) (c := 10) (v := ev_oI2l (lx_at T n p)) rfl (show ev_isL (ev_oI2l (lx_at T n p)) = true from (wq_i2l_L (hat p)))
          refine wq_aload_n rfl rfl rfl ?_
          refine wq_iload_n rfl rfl (show p < 4294967296 by omega) ?_
          refine wq_iconst rfl rfl ?_
          refine wq_iaddZ rfl (show p < 4294967296 by omega) (by decide) (z := p + 1) (by omega) ?_
          refine wm_put rfl (by decide) (wq_I (by omega)) ?_
          have hT18 := hT17.uf (f := 69) (c := 0) (v := p + 1) rfl (show p + 1 < 4294967296 from (by omega))
          have hp0 := lx_p0_lt (lx_at T n p) (lx_at T n (p + 1))
          refine wq_ret rfl ?_
          try rw [wq_upup]
          unfold lx_sign
          first | (rw [if_pos ⟨by omega, by omega⟩]; exact wq_k0) | (rw [if_neg (by omega), if_pos (by omega)]; exact wq_k0) | (rw [if_neg (by omega), if_neg (by omega), if_pos (by omega)]; exact wq_k0) | (rw [if_neg (by omega), if_neg (by omega), if_neg (by omega)]; exact wq_k0)
        · skip
          refine wq_iconst rfl rfl ?_
          refine wq_goto rfl rfl ?_
          refine wm_put rfl (by decide) (wq_I (by decide)) ?_
          have hT19 := hT1.uf (f := 67) (c := 0) (v := 5) rfl (show 5 < 4294967296 from (by decide))
          refine wq_aload_n rfl rfl rfl ?_
          refine wq_iload_n rfl rfl (hat p) ?_
          refine wq_i2l rfl (hat p) ?_
          refine wm_put rfl (by decide) (wq_i2l_L (hat p)) ?_
          have hT20 := hT19.uf (f := 68) (c := 10) (v := ev_oI2l (lx_at T n p)) rfl (show ev_isL (ev_oI2l (lx_at T n p)) = true from (wq_i2l_L (hat p)))
          refine wq_aload_n rfl rfl rfl ?_
          refine wq_iload_n rfl rfl (show p < 4294967296 by omega) ?_
          refine wq_iconst rfl rfl ?_
          refine wq_iaddZ rfl (show p < 4294967296 by omega) (by decide) (z := p + 1) (by omega) ?_
          refine wm_put rfl (by decide) (wq_I (by omega)) ?_
          have hT21 := hT20.uf (f := 69) (c := 0) (v := p + 1) rfl (show p + 1 < 4294967296 from (by omega))
          have hp0 := lx_p0_lt (lx_at T n p) (lx_at T n (p + 1))
          refine wq_ret rfl ?_
          try rw [wq_upup]
          unfold lx_sign
          first | (rw [if_pos ⟨by omega, by omega⟩]; exact wq_k0) | (rw [if_neg (by omega), if_pos (by omega)]; exact wq_k0) | (rw [if_neg (by omega), if_neg (by omega), if_pos (by omega)]; exact wq_k0) | (rw [if_neg (by omega), if_neg (by omega), if_neg (by omega)]; exact wq_k0)
      · skip
        refine wq_aload_n rfl rfl rfl ?_
        refine wq_iload_n rfl rfl (Nat.lt_trans (lx_p0_lt _ _) (by decide)) ?_
        refine wq_i2l rfl (Nat.lt_trans (lx_p0_lt _ _) (by decide)) ?_
        refine wm_put rfl (by decide) (wq_i2l_L (Nat.lt_trans (lx_p0_lt _ _) (by decide))) ?_
        have hT22 := hT1.uf (f := 68) (c := 10) (v := ev_oI2l (lx_p0 (lx_at T n p) (lx_at T n (p + 1)))) rfl (show ev_isL (ev_oI2l (lx_p0 (lx_at T n p) (lx_at T n (p + 1)))) = true from (wq_i2l_L (Nat.lt_trans (lx_p0_lt _ _) (by decide))))
        refine wq_aload_n rfl rfl rfl ?_
        refine wq_iload_n rfl rfl (show p < 4294967296 by omega) ?_
        refine wq_iconst rfl rfl ?_
        refine wq_iaddZ rfl (show p < 4294967296 by omega) (by decide) (z := p + 2) (by omega) ?_
        refine wm_put rfl (by decide) (wq_I (by omega)) ?_
        have hT23 := hT22.uf (f := 69) (c := 0) (v := p + 2) rfl (show p + 2 < 4294967296 from (by omega))
        refine wq_goto rfl rfl ?_
        have hp0 := lx_p0_lt (lx_at T n p) (lx_at T n (p + 1))
        refine wq_ret rfl ?_
        try rw [wq_upup]
        unfold lx_sign
        first | (rw [if_pos ⟨by omega, by omega⟩]; exact wq_k0) | (rw [if_neg (by omega), if_pos (by omega)]; exact wq_k0) | (rw [if_neg (by omega), if_neg (by omega), if_pos (by omega)]; exact wq_k0) | (rw [if_neg (by omega), if_neg (by omega), if_neg (by omega)]; exact wq_k0)
    · skip
      refine wq_aload_n rfl rfl rfl ?_
      refine wq_ldc2 rfl (by decide) ?_
      refine wm_put rfl (by decide) rfl ?_
      have hT24 := hT1.uf (f := 68) (c := 10) (v := 18446744073709551917) rfl (show ev_isL 18446744073709551917 = true from rfl)
      refine wq_aload_n rfl rfl rfl ?_
      refine wq_iload_n rfl rfl (show p < 4294967296 by omega) ?_
      refine wq_iconst rfl rfl ?_
      refine wq_iaddZ rfl (show p < 4294967296 by omega) (by decide) (z := p + 3) (by omega) ?_
      refine wm_put rfl (by decide) (wq_I (by omega)) ?_
      have hT25 := hT24.uf (f := 69) (c := 0) (v := p + 3) rfl (show p + 3 < 4294967296 from (by omega))
      refine wq_goto rfl rfl ?_
      have hp0 := lx_p0_lt (lx_at T n p) (lx_at T n (p + 1))
      refine wq_ret rfl ?_
      try rw [wq_upup]
      unfold lx_sign
      first | (rw [if_pos ⟨by omega, by omega⟩]; exact wq_k0) | (rw [if_neg (by omega), if_pos (by omega)]; exact wq_k0) | (rw [if_neg (by omega), if_neg (by omega), if_pos (by omega)]; exact wq_k0) | (rw [if_neg (by omega), if_neg (by omega), if_neg (by omega)]; exact wq_k0)
