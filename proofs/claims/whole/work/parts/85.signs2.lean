/-! ===== 85: signs: isAlone, readSign, scanSign (by wip/whole2/law85.py) ===== -/
theorem wd_ifc {α : Type} {p q : Prop} [Decidable p] [Decidable q] {x y x' y' : α} (h : p ↔ q) (hx : x = x') (hy : y = y') : (if p then x else y) = if q then x' else y' := by
  by_cases z : p
  · rw [if_pos z, if_pos (h.mp z), hx]
  · rw [if_neg z, if_neg (fun w => z (h.mpr w)), hy]
theorem wd_or {p : Prop} [Decidable p] {x y a b : Nat} (hx : p → x = a ∨ x < b) (hy : ¬ p → y = a ∨ y < b) : (if p then x else y) = a ∨ (if p then x else y) < b := by
  by_cases h : p
  · rw [if_pos h]; exact hx h
  · rw [if_neg h]; exact hy h
theorem wd_ne1 {p : Prop} [Decidable p] {x y a : Nat} (hx : p → ¬ x = a) (hy : ¬ p → ¬ y = a) : ¬ (if p then x else y) = a := by
  by_cases h : p
  · rw [if_pos h]; exact hx h
  · rw [if_neg h]; exact hy h
theorem dkS_207 {F : wq_F} {c : Nat} : dk_207 F c = some (if lx_ix c = 4294967295 then 0 else 1, F) := by
  by_cases h35 : c = 35
  · subst h35; rfl
  by_cases h36 : c = 36
  · subst h36; rfl
  by_cases h37 : c = 37
  · subst h37; rfl
  by_cases h38 : c = 38
  · subst h38; rfl
  by_cases h39 : c = 39
  · subst h39; rfl
  by_cases h40 : c = 40
  · subst h40; rfl
  by_cases h41 : c = 41
  · subst h41; rfl
  by_cases h42 : c = 42
  · subst h42; rfl
  by_cases h43 : c = 43
  · subst h43; rfl
  by_cases h44 : c = 44
  · subst h44; rfl
  by_cases h45 : c = 45
  · subst h45; rfl
  by_cases h46 : c = 46
  · subst h46; rfl
  by_cases h47 : c = 47
  · subst h47; rfl
  by_cases h48 : c = 48
  · subst h48; rfl
  by_cases h49 : c = 49
  · subst h49; rfl
  by_cases h50 : c = 50
  · subst h50; rfl
  by_cases h51 : c = 51
  · subst h51; rfl
  by_cases h52 : c = 52
  · subst h52; rfl
  by_cases h53 : c = 53
  · subst h53; rfl
  by_cases h54 : c = 54
  · subst h54; rfl
  by_cases h55 : c = 55
  · subst h55; rfl
  by_cases h56 : c = 56
  · subst h56; rfl
  by_cases h57 : c = 57
  · subst h57; rfl
  by_cases h58 : c = 58
  · subst h58; rfl
  by_cases h59 : c = 59
  · subst h59; rfl
  by_cases h60 : c = 60
  · subst h60; rfl
  by_cases h61 : c = 61
  · subst h61; rfl
  by_cases h62 : c = 62
  · subst h62; rfl
  by_cases h63 : c = 63
  · subst h63; rfl
  by_cases h64 : c = 64
  · subst h64; rfl
  by_cases h65 : c = 65
  · subst h65; rfl
  by_cases h66 : c = 66
  · subst h66; rfl
  by_cases h67 : c = 67
  · subst h67; rfl
  by_cases h68 : c = 68
  · subst h68; rfl
  by_cases h69 : c = 69
  · subst h69; rfl
  by_cases h70 : c = 70
  · subst h70; rfl
  by_cases h71 : c = 71
  · subst h71; rfl
  by_cases h72 : c = 72
  · subst h72; rfl
  by_cases h73 : c = 73
  · subst h73; rfl
  by_cases h74 : c = 74
  · subst h74; rfl
  by_cases h75 : c = 75
  · subst h75; rfl
  by_cases h76 : c = 76
  · subst h76; rfl
  by_cases h77 : c = 77
  · subst h77; rfl
  by_cases h78 : c = 78
  · subst h78; rfl
  by_cases h79 : c = 79
  · subst h79; rfl
  by_cases h80 : c = 80
  · subst h80; rfl
  by_cases h81 : c = 81
  · subst h81; rfl
  by_cases h82 : c = 82
  · subst h82; rfl
  by_cases h83 : c = 83
  · subst h83; rfl
  by_cases h84 : c = 84
  · subst h84; rfl
  by_cases h85 : c = 85
  · subst h85; rfl
  by_cases h86 : c = 86
  · subst h86; rfl
  by_cases h87 : c = 87
  · subst h87; rfl
  by_cases h88 : c = 88
  · subst h88; rfl
  by_cases h89 : c = 89
  · subst h89; rfl
  by_cases h90 : c = 90
  · subst h90; rfl
  by_cases h91 : c = 91
  · subst h91; rfl
  by_cases h92 : c = 92
  · subst h92; rfl
  by_cases h93 : c = 93
  · subst h93; rfl
  by_cases h94 : c = 94
  · subst h94; rfl
  by_cases h95 : c = 95
  · subst h95; rfl
  by_cases h96 : c = 96
  · subst h96; rfl
  by_cases h97 : c = 97
  · subst h97; rfl
  by_cases h98 : c = 98
  · subst h98; rfl
  by_cases h99 : c = 99
  · subst h99; rfl
  by_cases h100 : c = 100
  · subst h100; rfl
  by_cases h101 : c = 101
  · subst h101; rfl
  by_cases h102 : c = 102
  · subst h102; rfl
  by_cases h103 : c = 103
  · subst h103; rfl
  by_cases h104 : c = 104
  · subst h104; rfl
  by_cases h105 : c = 105
  · subst h105; rfl
  by_cases h106 : c = 106
  · subst h106; rfl
  by_cases h107 : c = 107
  · subst h107; rfl
  by_cases h108 : c = 108
  · subst h108; rfl
  by_cases h109 : c = 109
  · subst h109; rfl
  by_cases h110 : c = 110
  · subst h110; rfl
  by_cases h111 : c = 111
  · subst h111; rfl
  by_cases h112 : c = 112
  · subst h112; rfl
  by_cases h113 : c = 113
  · subst h113; rfl
  by_cases h114 : c = 114
  · subst h114; rfl
  by_cases h115 : c = 115
  · subst h115; rfl
  by_cases h116 : c = 116
  · subst h116; rfl
  by_cases h117 : c = 117
  · subst h117; rfl
  by_cases h118 : c = 118
  · subst h118; rfl
  by_cases h119 : c = 119
  · subst h119; rfl
  by_cases h120 : c = 120
  · subst h120; rfl
  by_cases h121 : c = 121
  · subst h121; rfl
  by_cases h122 : c = 122
  · subst h122; rfl
  by_cases h123 : c = 123
  · subst h123; rfl
  by_cases h124 : c = 124
  · subst h124; rfl
  by_cases h125 : c = 125
  · subst h125; rfl
  by_cases h126 : c = 126
  · subst h126; rfl
  have e : lx_ix c = 4294967295 := by
    unfold lx_ix
    rw [if_neg h43, if_neg h45, if_neg h42, if_neg h37, if_neg h38, if_neg h124, if_neg h126, if_neg h60, if_neg h62, if_neg h61, if_neg h35, if_neg h40, if_neg h41, if_neg h123, if_neg h125, if_neg h91, if_neg h93, if_neg h59, if_neg h58, if_neg h44, if_neg h46]
  rw [if_pos e]
  unfold dk_207
  rw [if_neg h35, if_neg h36, if_neg h37, if_neg h38, if_neg h39, if_neg h40, if_neg h41, if_neg h42, if_neg h43, if_neg h44, if_neg h45, if_neg h46, if_neg h47, if_neg h48, if_neg h49, if_neg h50, if_neg h51, if_neg h52, if_neg h53, if_neg h54, if_neg h55, if_neg h56, if_neg h57, if_neg h58, if_neg h59, if_neg h60, if_neg h61, if_neg h62, if_neg h63, if_neg h64, if_neg h65, if_neg h66, if_neg h67, if_neg h68, if_neg h69, if_neg h70, if_neg h71, if_neg h72, if_neg h73, if_neg h74, if_neg h75, if_neg h76, if_neg h77, if_neg h78, if_neg h79, if_neg h80, if_neg h81, if_neg h82, if_neg h83, if_neg h84, if_neg h85, if_neg h86, if_neg h87, if_neg h88, if_neg h89, if_neg h90, if_neg h91, if_neg h92, if_neg h93, if_neg h94, if_neg h95, if_neg h96, if_neg h97, if_neg h98, if_neg h99, if_neg h100, if_neg h101, if_neg h102, if_neg h103, if_neg h104, if_neg h105, if_neg h106, if_neg h107, if_neg h108, if_neg h109, if_neg h110, if_neg h111, if_neg h112, if_neg h113, if_neg h114, if_neg h115, if_neg h116, if_neg h117, if_neg h118, if_neg h119, if_neg h120, if_neg h121, if_neg h122, if_neg h123, if_neg h124, if_neg h125, if_neg h126]
/-- a sign's number on the class's side -/
def lx_sg (v : Nat) : Nat := if v = 302 then 66 else if v = 303 then 67 else if v = 304 then 68 else if v = 305 then 69 else if v = 306 then 62 else if v = 307 then 63 else if v = 308 then 61 else if v = 300 then 64 else if v = 301 then 65 else 40 + lx_ix v
theorem lx_q_p0 {c d : Nat} : lx_q c d = if lx_p0 c d = 0 then 1 else lx_sg (lx_p0 c d) := by
  by_cases h0 : c = 61 ∧ d = 61
  · obtain ⟨rfl, rfl⟩ := h0; rfl
  by_cases h1 : c = 126 ∧ d = 61
  · obtain ⟨rfl, rfl⟩ := h1; rfl
  by_cases h2 : c = 60 ∧ d = 61
  · obtain ⟨rfl, rfl⟩ := h2; rfl
  by_cases h3 : c = 62 ∧ d = 61
  · obtain ⟨rfl, rfl⟩ := h3; rfl
  by_cases h4 : c = 60 ∧ d = 60
  · obtain ⟨rfl, rfl⟩ := h4; rfl
  by_cases h5 : c = 62 ∧ d = 62
  · obtain ⟨rfl, rfl⟩ := h5; rfl
  by_cases h6 : c = 47 ∧ d = 47
  · obtain ⟨rfl, rfl⟩ := h6; rfl
  by_cases h7 : c = 46 ∧ d = 46
  · obtain ⟨rfl, rfl⟩ := h7; rfl
  have e : lx_p0 c d = 0 := by
    unfold lx_p0 lx_p1 lx_p2 lx_p3 lx_p4 lx_p5 lx_p6 lx_p7
    rw [if_neg h0, if_neg h1, if_neg h2, if_neg h3, if_neg h4, if_neg h5, if_neg h6, if_neg h7]
  rw [if_pos e]
  unfold lx_q
  by_cases a : d = 61
  · rw [if_pos a, if_neg (by omega), if_neg (by omega), if_neg (by omega), if_neg (by omega)]
  · rw [if_neg a]
    by_cases b : c = d
    · rw [if_pos b, if_neg (by omega), if_neg (by omega), if_neg (by omega), if_neg (by omega)]
    · rw [if_neg b]
theorem lx_q_b8 {c d c' d' : Nat} (hc : ∀ k, k < 128 → (c' = k ↔ c = k)) (hd : ∀ k, k < 128 → (d' = k ↔ d = k)) : lx_q c' d' = lx_q c d := by
  have c60 := hc 60 (by decide)
  have c61 := hc 61 (by decide)
  have c62 := hc 62 (by decide)
  have c126 := hc 126 (by decide)
  have c46 := hc 46 (by decide)
  have c47 := hc 47 (by decide)
  have d60 := hd 60 (by decide)
  have d61 := hd 61 (by decide)
  have d62 := hd 62 (by decide)
  have d46 := hd 46 (by decide)
  have d47 := hd 47 (by decide)
  rw [lx_q_p0, lx_q_p0]
  have e : lx_p0 c' d' = lx_p0 c d := by
    unfold lx_p0 lx_p1 lx_p2 lx_p3 lx_p4 lx_p5 lx_p6 lx_p7
    exact wd_ifc (show (c' = 61 ∧ d' = 61) ↔ (c = 61 ∧ d = 61) by omega) rfl (wd_ifc (show (c' = 126 ∧ d' = 61) ↔ (c = 126 ∧ d = 61) by omega) rfl (wd_ifc (show (c' = 60 ∧ d' = 61) ↔ (c = 60 ∧ d = 61) by omega) rfl (wd_ifc (show (c' = 62 ∧ d' = 61) ↔ (c = 62 ∧ d = 61) by omega) rfl (wd_ifc (show (c' = 60 ∧ d' = 60) ↔ (c = 60 ∧ d = 60) by omega) rfl (wd_ifc (show (c' = 62 ∧ d' = 62) ↔ (c = 62 ∧ d = 62) by omega) rfl (wd_ifc (show (c' = 47 ∧ d' = 47) ↔ (c = 47 ∧ d = 47) by omega) rfl (wd_ifc (show (c' = 46 ∧ d' = 46) ↔ (c = 46 ∧ d = 46) by omega) rfl rfl)))))))
  rw [e]
theorem lx_p0_lt400 (c d : Nat) : lx_p0 c d < 400 := lx_p0_lt c d
/-- what stands at a place that is none of the others: the sign (0: none), where it ends -/
def lx_sgn (T : Nat → Nat) (n p : Nat) : Nat × Nat :=
  if lx_at T n p = 46 ∧ lx_at T n (p + 1) = 46 ∧ lx_at T n (p + 2) = 46 then (301, p + 3)
  else if 0 < lx_p0 (lx_at T n p) (lx_at T n (p + 1)) then (lx_p0 (lx_at T n p) (lx_at T n (p + 1)), p + 2)
  else (if lx_ix (lx_at T n p) = 4294967295 then 0 else lx_at T n p, p + 1)
theorem lx_p0_300 {c d : Nat} : lx_p0 c d = 300 ↔ c = 46 ∧ d = 46 := by
  constructor
  · intro h
    unfold lx_p0 lx_p1 lx_p2 lx_p3 lx_p4 lx_p5 lx_p6 lx_p7 at h
    by_cases h0 : c = 61 ∧ d = 61
    · rw [if_pos h0] at h; cases h
    rw [if_neg h0] at h
    by_cases h1 : c = 126 ∧ d = 61
    · rw [if_pos h1] at h; cases h
    rw [if_neg h1] at h
    by_cases h2 : c = 60 ∧ d = 61
    · rw [if_pos h2] at h; cases h
    rw [if_neg h2] at h
    by_cases h3 : c = 62 ∧ d = 61
    · rw [if_pos h3] at h; cases h
    rw [if_neg h3] at h
    by_cases h4 : c = 60 ∧ d = 60
    · rw [if_pos h4] at h; cases h
    rw [if_neg h4] at h
    by_cases h5 : c = 62 ∧ d = 62
    · rw [if_pos h5] at h; cases h
    rw [if_neg h5] at h
    by_cases h6 : c = 47 ∧ d = 47
    · rw [if_pos h6] at h; cases h
    rw [if_neg h6] at h
    by_cases h7 : c = 46 ∧ d = 46
    · exact h7
    rw [if_neg h7] at h
    cases h
  · intro ⟨h1, h2⟩
    subst h1; subst h2
    rfl
theorem dkL_208_59 {F : wq_F} {p c two : Nat} (hp : p < 100000) (h2 : two < 400) : dk_208_59 F p c two = some (0, wq_up (wq_up (if 0 < two then F else wq_up F 0 67 (if lx_ix c = 4294967295 then 7 else 5)) 0 68 (ev_oI2l (if 0 < two then two else c))) 0 69 (if 0 < two then p + 2 else p + 1)) := by
  unfold dk_208_59
  by_cases q : 0 < two
  · rw [if_pos ⟨q, by omega⟩, if_pos q, if_pos q, if_pos q, od_upS, od_upS, Nat.mod_eq_of_lt (show p + 2 < 4294967296 by omega)]
  · rw [if_neg (fun z => q z.1), if_neg q, if_neg q, if_neg q, dkS_207, od_bS]
    dsimp only
    unfold dk_208_93
    by_cases w : lx_ix c = 4294967295
    · rw [if_pos w, if_pos w, if_pos rfl, od_upS, od_upS, od_upS, Nat.mod_eq_of_lt (show p + 1 < 4294967296 by omega)]
    · rw [if_neg w, if_neg w, if_neg (by decide), od_upS, od_upS, od_upS, Nat.mod_eq_of_lt (show p + 1 < 4294967296 by omega)]
/-- what the reference reads there -/
def sg_res (F : wq_F) (n p : Nat) : wq_F := wq_up (wq_up (wq_up F 0 67 (if (lx_sgn (F 1) n p).1 = 0 then 7 else 5)) 0 68 (ev_oI2l (if (lx_sgn (F 1) n p).1 = 0 then lx_at (F 1) n p else (lx_sgn (F 1) n p).1))) 0 69 (lx_sgn (F 1) n p).2
theorem lx_ix0 : lx_ix 0 = 4294967295 := by decide
theorem dkS_208 {F : wq_F} {n p : Nat} (hF : F 0 2 = n) (hn6 : n ≤ 6000) (hp : p < n) : dk_208 F p = some (0, sg_res F n p) := by
  have e1 : wq_up F 0 67 5 1 = F 1 := funext fun i => wq_up_cell (by decide)
  have e2 : wq_up F 0 67 5 0 2 = n := by rw [wq_up_at (by decide)]; exact hF
  have h400 := lx_p0_lt400 (lx_at (F 1) n p) (lx_at (F 1) n (p + 1))
  unfold dk_208
  rw [Nat.mod_eq_of_lt (show p + 1 < 4294967296 by omega), Nat.mod_eq_of_lt (show p + 2 < 4294967296 by omega), Nat.mod_eq_of_lt (show p + 3 < 4294967296 by omega), dkS_28 (by omega) (by omega), od_bS, hF]
  dsimp only
  rw [dkS_28 (by omega) (by omega), od_bS, hF]
  show (some (lx_p0 (lx_at (F 1) n p) (lx_at (F 1) n (p + 1)), F)).bind _ = _
  rw [od_bS, od_upS]
  dsimp only
  have gen : ¬ (lx_at (F 1) n p = 46 ∧ lx_at (F 1) n (p + 1) = 46 ∧ lx_at (F 1) n (p + 2) = 46) → dk_208_59 (wq_up F 0 67 5) p (lx_at (F 1) n p) (lx_p0 (lx_at (F 1) n p) (lx_at (F 1) n (p + 1))) = some (0, sg_res F n p) := fun z => by
    rw [dkL_208_59 (by omega) h400]
    unfold sg_res lx_sgn
    rw [if_neg z]
    by_cases q : 0 < lx_p0 (lx_at (F 1) n p) (lx_at (F 1) n (p + 1))
    · rw [if_pos q, if_pos q, if_pos q, if_pos q]
      dsimp only
      rw [if_neg (by omega), if_neg (by omega)]
    · rw [if_neg q, if_neg q, if_neg q, if_neg q]
      dsimp only
      by_cases w : lx_ix (lx_at (F 1) n p) = 4294967295
      · rw [if_pos w, if_pos w, if_pos rfl, if_pos rfl, wq_upup]
      · have w2 : ¬ lx_at (F 1) n p = 0 := fun y => w (by rw [y]; exact lx_ix0)
        rw [if_neg w, if_neg w, if_neg w2, if_neg w2, wq_upup]
  by_cases h : lx_p0 (lx_at (F 1) n p) (lx_at (F 1) n (p + 1)) = 300
  · have hcd := lx_p0_300.mp h
    rw [if_pos h, dkS_28 (by omega) (by rw [e2]; exact hn6), od_bS, e1, e2]
    dsimp only
    by_cases h3 : lx_at (F 1) n (p + 2) = 46
    · rw [if_pos h3, od_upS, od_upS]
      have e : lx_sgn (F 1) n p = (301, p + 3) := if_pos ⟨hcd.1, hcd.2, h3⟩
      unfold sg_res
      rw [e]
      show _ = some (0, wq_up (wq_up (wq_up F 0 67 5) 0 68 (ev_oI2l 301)) 0 69 (p + 3))
      rfl
    · rw [if_neg h3]
      exact gen (fun z => h3 z.2.2)
  · rw [if_neg h]
    exact gen (fun z => h (lx_p0_300.mpr ⟨z.1, z.2.1⟩))
theorem dkL_194_111 {F : wq_F} {s p : Nat} (hP : F 57 5 = p) (hp : p < 100000) (hs : s = 4294967295 ∨ s < 100) : dk_194_111 F s = some (0, wq_up (wq_up F 57 4 (if s = 4294967295 then 1 else 40 + s)) 57 3 (p + 1)) := by
  unfold dk_194_111
  by_cases q : s = 4294967295
  · rw [if_pos (by omega), if_pos q, od_upS, od_upS, wq_up_at (by decide), hP, Nat.mod_eq_of_lt (show p + 1 < 4294967296 by omega)]
  · rw [if_neg (by omega), if_neg q, od_upS, od_upS, wq_up_at (by decide), hP, Nat.mod_eq_of_lt (show p + 1 < 4294967296 by omega), Nat.mod_eq_of_lt (show 40 + s < 4294967296 by omega)]
theorem lx_ix_in (c : Nat) : lx_ix c = 4294967295 ∨ lx_ix c < 100 := by
  unfold lx_ix
  repeat' first | (apply wd_or <;> intro _) | decide
/-- what the class reads there -/
def sgx_res (F : wq_F) (T : Nat → Nat) (n p : Nat) : wq_F := wq_up (wq_up F 57 4 (if (lx_sgn T n p).1 = 0 then 1 else lx_sg (lx_sgn T n p).1)) 57 3 (lx_sgn T n p).2
theorem lx_sg_1 {c : Nat} (h : c < 256) : lx_sg c = 40 + lx_ix c := by
  unfold lx_sg
  rw [if_neg (by omega), if_neg (by omega), if_neg (by omega), if_neg (by omega), if_neg (by omega), if_neg (by omega), if_neg (by omega), if_neg (by omega), if_neg (by omega)]
theorem lx_ix_big {c : Nat} (h : 128 ≤ c) : lx_ix c = 4294967295 := by
  unfold lx_ix
  rw [if_neg (by omega), if_neg (by omega), if_neg (by omega), if_neg (by omega), if_neg (by omega), if_neg (by omega), if_neg (by omega), if_neg (by omega), if_neg (by omega), if_neg (by omega), if_neg (by omega), if_neg (by omega), if_neg (by omega), if_neg (by omega), if_neg (by omega), if_neg (by omega), if_neg (by omega), if_neg (by omega), if_neg (by omega), if_neg (by omega), if_neg (by omega)]
theorem dkS_194 {F : wq_F} {T : Nat → Nat} {n p : Nat} (hF : F 57 2 = n) (hP : F 57 5 = p) (hn6 : n ≤ 6000) (hp : p < n) (hT : ∀ i, i < n → F 1 i = ev_b8 (T i) ∧ T i < 256) : dk_194 F = some (0, sgx_res F T n p) := by
  have hk := hT p hp
  have hat : lx_at (F 1) n p = F 1 p := lx_at_of hp
  have hat' : lx_at T n p = T p := lx_at_of hp
  have eqv : ∀ j k, k < 128 → (lx_at (F 1) n j = k ↔ lx_at T n j = k) := fun j k h => lx_at_b8 hT h
  have at_ : ∀ j, j < 2147483648 → dk_186 F j = some (lx_at (F 1) n j, F) := fun j hj => by
    unfold dk_186
    rw [od_g1 ⟨hj, by omega⟩, hF]
  have hq : lx_q (F 1 p) (lx_at (F 1) n (p + 1)) = lx_q (T p) (lx_at T n (p + 1)) := lx_q_b8 (fun k h => by rw [← hat, ← hat']; exact eqv p k h) (fun k h => eqv _ k h)
  have h400 := lx_p0_lt400 (lx_at T n p) (lx_at T n (p + 1))
  unfold dk_194
  rw [hP, od_g1 (by omega), Nat.mod_eq_of_lt (show p + 1 < 4294967296 by omega), at_ _ (by omega), od_bS]
  dsimp only
  show (some (lx_q (F 1 p) (lx_at (F 1) n (p + 1)), F)).bind _ = _
  rw [od_bS]
  dsimp only
  rw [hq, lx_q_p0, ← hat']
  have gen : ¬ (lx_at T n p = 46 ∧ lx_at T n (p + 1) = 46 ∧ lx_at T n (p + 2) = 46) → dk_194_73 F (F 1 p) (if lx_p0 (lx_at T n p) (lx_at T n (p + 1)) = 0 then 1 else lx_sg (lx_p0 (lx_at T n p) (lx_at T n (p + 1)))) = some (0, sgx_res F T n p) := fun z => by
    unfold dk_194_73 sgx_res lx_sgn
    rw [if_neg z]
    by_cases q : lx_p0 (lx_at T n p) (lx_at T n (p + 1)) = 0
    · rw [if_pos q, if_pos rfl, if_neg (show ¬ 0 < lx_p0 (lx_at T n p) (lx_at T n (p + 1)) by omega)]
      dsimp only
      rw [hat', hk.1]
      by_cases w : 128 ≤ T p
      · have e : ev_b8 (T p) = T p + 4294967040 := by
          unfold ev_b8
          rw [Nat.mod_eq_of_lt hk.2, wd_bF (by omega), cond_false]
        rw [e, if_pos (by omega), dkL_194_111 hP (by omega) (Or.inl rfl), if_pos rfl, lx_ix_big w, if_pos rfl, if_pos rfl]
      · have e : ev_b8 (T p) = T p := (lx_b8_c hk.2 (by omega)).mpr rfl
        have e2 : ev_oI2c (T p) = T p := by
          unfold ev_oI2c
          omega
        rw [e, e2, if_neg (by omega), od_g1 (by omega), dkL_194_111 hP (by omega) (lx_ix_in _)]
        by_cases v : lx_ix (T p) = 4294967295
        · rw [if_pos v, if_pos v, if_pos rfl]
        · have v2 : ¬ T p = 0 := fun y => v (by rw [y]; exact lx_ix0)
          rw [if_neg v, if_neg v, if_neg v2, lx_sg_1 hk.2]
    · have hsg : ¬ lx_sg (lx_p0 (lx_at T n p) (lx_at T n (p + 1))) = 1 := by
        have h1 := lx_q_p0 (c := lx_at T n p) (d := lx_at T n (p + 1))
        unfold lx_sg
        repeat' first | (apply wd_ne1 <;> intro _) | decide | omega
      rw [if_neg q, if_neg hsg, if_pos (show 0 < lx_p0 (lx_at T n p) (lx_at T n (p + 1)) by omega), od_upS, od_upS, wq_up_at (by decide), hP, Nat.mod_eq_of_lt (show p + 2 < 4294967296 by omega)]
      dsimp only
      rw [if_neg q]
  by_cases h1 : lx_at T n p = 46
  · rw [if_pos (show F 1 p = 46 by rw [← hat]; exact (eqv p 46 (by decide)).mpr h1)]
    by_cases h2 : lx_at T n (p + 1) = 46
    · rw [if_pos ((eqv (p + 1) 46 (by decide)).mpr h2), od_letS, hP, Nat.mod_eq_of_lt (show p + 2 < 4294967296 by omega), at_ _ (by omega), od_bS]
      dsimp only
      by_cases h3 : lx_at T n (p + 2) = 46
      · rw [if_pos ((eqv (p + 2) 46 (by decide)).mpr h3), od_upS, od_letS, od_upS, wq_up_at (by decide), hP, Nat.mod_eq_of_lt (show p + 3 < 4294967296 by omega)]
        have e : lx_sgn T n p = (301, p + 3) := if_pos ⟨h1, h2, h3⟩
        unfold sgx_res
        rw [e]
        rfl
      · rw [if_neg (fun z => h3 ((eqv (p + 2) 46 (by decide)).mp z))]
        exact gen (fun z => h3 z.2.2)
    · rw [if_neg (fun z => h2 ((eqv (p + 1) 46 (by decide)).mp z))]
      exact gen (fun z => h2 z.2.1)
  · rw [if_neg (show ¬ F 1 p = 46 from fun z => h1 ((eqv p 46 (by decide)).mp (by rw [hat]; exact z)))]
    exact gen (fun z => h1 z.1)
