/-! ===== 99h: questions put to a token by both parsers (by wip/whole2/law99h.py) ===== -/
theorem od_ifS {c : Prop} [Decidable c] {a b : Nat} {F : wq_F} : (if c then some (a, F) else some (b, F)) = some (if c then a else b, F) := by
  by_cases h : c
  · rw [if_pos h, if_pos h]
  · rw [if_neg h, if_neg h]
/-- does a statement begin with a token of this type -/
def tb_st (t : Nat) : Nat := if t = 2 then 1 else if t = 11 then 1 else if t = 12 then 1 else if t = 17 then 1 else if t = 18 then 1 else if t = 19 then 1 else if t = 21 then 1 else if t = 25 then 1 else if t = 30 then 1 else if t = 51 then 1 else if t = 57 then 1 else 0
theorem dkS_79 {G : wq_F} : dk_79 G = some (tb_st (G 57 4), G) := by
  unfold dk_79 tb_st
  simp only [od_letS, od_ifS]
/-- the operator that stands before an expression -/
def tb_un (t : Nat) : Nat := if t = 23 then 25 else if t = 41 then 50 else if t = 46 then 51 else if t = 50 then 53 else 4294967295
theorem dkS_146 {G : wq_F} : dk_146 G = some (tb_un (G 57 4), G) := by
  unfold dk_146 tb_un
  simp only [od_letS, od_ifS]
/-- does an expression begin -/
def tb_ex (t : Nat) : Nat := if t = 2 then 1 else if t = 3 then 1 else if t = 4 then 1 else if t = 16 then 1 else if t = 18 then 1 else if t = 22 then 1 else if t = 28 then 1 else if t = 51 then 1 else if t = 53 then 1 else if t = 65 then 1 else (if tb_un t = 4294967295 then 0 else 1)
theorem dkS_114 {G : wq_F} : dk_114 G = some (tb_ex (G 57 4), G) := by
  unfold dk_114 tb_ex
  simp only [od_letS, dkS_146, od_bS, od_ifS]
/-- how strong an operator is -/
def tb_sg (t : Nat) : Nat := if t = 10 then 2 else if t = 11 then 0 else if t = 12 then 0 else if t = 13 then 0 else if t = 14 then 0 else if t = 15 then 0 else if t = 16 then 0 else if t = 17 then 0 else if t = 18 then 0 else if t = 19 then 0 else if t = 20 then 0 else if t = 21 then 0 else if t = 22 then 0 else if t = 23 then 0 else if t = 24 then 1 else if t = 25 then 0 else if t = 26 then 0 else if t = 27 then 0 else if t = 28 then 0 else if t = 29 then 0 else if t = 30 then 0 else if t = 31 then 0 else if t = 32 then 0 else if t = 33 then 0 else if t = 34 then 0 else if t = 35 then 0 else if t = 36 then 0 else if t = 37 then 0 else if t = 38 then 0 else if t = 39 then 0 else if t = 40 then 9 else if t = 41 then 9 else if t = 42 then 10 else if t = 43 then 10 else if t = 44 then 6 else if t = 45 then 4 else if t = 46 then 5 else if t = 47 then 3 else if t = 48 then 3 else if t = 49 then 0 else if t = 50 then 0 else if t = 51 then 0 else if t = 52 then 0 else if t = 53 then 0 else if t = 54 then 0 else if t = 55 then 0 else if t = 56 then 0 else if t = 57 then 0 else if t = 58 then 0 else if t = 59 then 0 else if t = 60 then 0 else if t = 61 then 10 else if t = 62 then 7 else if t = 63 then 7 else if t = 64 then 8 else if t = 65 then 0 else if t = 66 then 3 else if t = 67 then 3 else if t = 68 then 3 else if t = 69 then 3 else 0
theorem dkS_145 {G : wq_F} : dk_145 G = some (tb_sg (G 57 4), G) := by
  unfold dk_145 tb_sg
  simp only [od_letS, od_ifS]
theorem tk_Vm {T : Nat → Nat} {n M i : Nat} {F : wq_F} {ls : List (List Nat)} (h : pm_at T n M i F ls) (q : tk_k T n i = 4 ∨ tk_k T n i = 5) : F 11 (F 0 25) = tk_V T n (tk_pos T n i) := by
  rw [h.2.1]
  exact (h.2.2.2.2.2.1 i (by have := h.2.2.1; omega)).2.2.1 (Or.inr q)
theorem tb_l2i {v : Nat} (h : v < 4294967296) : ev_oL2i (18446744073709551616 + v) = v := by
  unfold ev_oL2i
  omega
theorem tb_sgl : ∀ v ∈ lx_signs, v < 400 := by decide
theorem pm_b {T : Nat → Nat} {n M i : Nat} {F : wq_F} {ls : List (List Nat)} (hM : tk_M T n M) (h : pm_at T n M i F ls) : F 0 25 < 1502 := by
  rw [h.2.1]
  have := hM.1
  have := h.2.2.1
  omega
theorem dkS_35 {T : Nat → Nat} {n M i : Nat} {F : wq_F} {ls : List (List Nat)} (hM : tk_M T n M) (h : pm_at T n M i F ls) : dk_35 F = some (tb_st (tk_ty T n (tk_pos T n i)), F) := by
  have hb := pm_b hM h
  have hk := pm_kind h
  unfold dk_35
  simp -implicitDefEqProofs only [od_g1 hb, od_bS, od_letS, hk, pm_isSign hM h (c := 59) (by decide), pm_isSign hM h (c := 40) (by decide)]
  show _ = some (tb_st (tk_ty T n (tk_pos T n i)), F)
  have hV := tk_Vm h
  rcases tk_ty_all (T := T) (n := n) (p := tk_pos T n i) with e | e | e | e | e | e | e
  · have e1 : tk_k T n i = 1 := e.1
    simp only [e1, e.2]
    rfl
  · have e1 : tk_k T n i = 2 := e.1
    simp only [e1, e.2]
    rfl
  · have e1 : tk_k T n i = 3 := e.1
    simp only [e1, e.2]
    rfl
  · have e1 : tk_k T n i = 4 := e.1
    rw [hV (Or.inl e1)]
    generalize tk_V T n (tk_pos T n i) = v at *
    rw [e.2.1]
    have e2 := e.2.2.2
    have hv : v < 4294967296 := by omega
    try simp only [tb_l2i hv]
    simp only [e1]
    have : v = 1 ∨ v = 2 ∨ v = 3 ∨ v = 4 ∨ v = 5 ∨ v = 6 ∨ v = 7 ∨ v = 8 ∨ v = 9 ∨ v = 10 ∨ v = 11 ∨ v = 12 ∨ v = 13 ∨ v = 14 ∨ v = 15 ∨ v = 16 ∨ v = 17 ∨ v = 18 ∨ v = 19 ∨ v = 20 ∨ v = 21 := by omega
    rcases this with a | a | a | a | a | a | a | a | a | a | a | a | a | a | a | a | a | a | a | a | a <;> (subst a; rfl)
  · have e1 : tk_k T n i = 5 := e.1
    rw [hV (Or.inr e1)]
    generalize tk_V T n (tk_pos T n i) = v at *
    rw [e.2.1]
    have e3 := e.2.2.1
    have hv : v < 4294967296 := Nat.lt_trans (tb_sgl v e3) (by decide)
    unfold lx_signs at e3
    try simp only [tb_l2i hv]
    simp only [e1]
    simp only [List.mem_cons, List.not_mem_nil, or_false] at e3
    rcases e3 with a | a | a | a | a | a | a | a | a | a | a | a | a | a | a | a | a | a | a | a | a | a | a | a | a | a | a | a | a | a <;> (subst a; rfl)
  · have e1 : tk_k T n i = 6 := e.1
    simp only [e1, e.2]
    rfl
  · have e1 : tk_k T n i = 7 := e.1
    simp only [e1, e.2]
    rfl
theorem dkS_217 {T : Nat → Nat} {n M i : Nat} {F : wq_F} {ls : List (List Nat)} (hM : tk_M T n M) (h : pm_at T n M i F ls) : dk_217 F = some (tb_ex (tk_ty T n (tk_pos T n i)), F) := by
  have hb := pm_b hM h
  have hk := pm_kind h
  unfold dk_217
  simp -implicitDefEqProofs only [od_g1 hb, od_bS, od_letS, hk, pm_isSign hM h (c := 301) (by decide), pm_isSign hM h (c := 123) (by decide), pm_isSign hM h (c := 40) (by decide), pm_isSign hM h (c := 35) (by decide), pm_isSign hM h (c := 45) (by decide), pm_isSign hM h (c := 126) (by decide)]
  show _ = some (tb_ex (tk_ty T n (tk_pos T n i)), F)
  have hV := tk_Vm h
  rcases tk_ty_all (T := T) (n := n) (p := tk_pos T n i) with e | e | e | e | e | e | e
  · have e1 : tk_k T n i = 1 := e.1
    simp only [e1, e.2]
    rfl
  · have e1 : tk_k T n i = 2 := e.1
    simp only [e1, e.2]
    rfl
  · have e1 : tk_k T n i = 3 := e.1
    simp only [e1, e.2]
    rfl
  · have e1 : tk_k T n i = 4 := e.1
    rw [hV (Or.inl e1)]
    generalize tk_V T n (tk_pos T n i) = v at *
    rw [e.2.1]
    have e2 := e.2.2.2
    have hv : v < 4294967296 := by omega
    try simp only [tb_l2i hv]
    simp only [e1]
    have : v = 1 ∨ v = 2 ∨ v = 3 ∨ v = 4 ∨ v = 5 ∨ v = 6 ∨ v = 7 ∨ v = 8 ∨ v = 9 ∨ v = 10 ∨ v = 11 ∨ v = 12 ∨ v = 13 ∨ v = 14 ∨ v = 15 ∨ v = 16 ∨ v = 17 ∨ v = 18 ∨ v = 19 ∨ v = 20 ∨ v = 21 := by omega
    rcases this with a | a | a | a | a | a | a | a | a | a | a | a | a | a | a | a | a | a | a | a | a <;> (subst a; rfl)
  · have e1 : tk_k T n i = 5 := e.1
    rw [hV (Or.inr e1)]
    generalize tk_V T n (tk_pos T n i) = v at *
    rw [e.2.1]
    have e3 := e.2.2.1
    have hv : v < 4294967296 := Nat.lt_trans (tb_sgl v e3) (by decide)
    unfold lx_signs at e3
    try simp only [tb_l2i hv]
    simp only [e1]
    simp only [List.mem_cons, List.not_mem_nil, or_false] at e3
    rcases e3 with a | a | a | a | a | a | a | a | a | a | a | a | a | a | a | a | a | a | a | a | a | a | a | a | a | a | a | a | a | a <;> (subst a; rfl)
  · have e1 : tk_k T n i = 6 := e.1
    simp only [e1, e.2]
    rfl
  · have e1 : tk_k T n i = 7 := e.1
    simp only [e1, e.2]
    rfl
/-- the reference counts the strengths from the join on one more -/
def tb_sr (t : Nat) : Nat := if 8 ≤ tb_sg t then tb_sg t + 1 else tb_sg t
theorem dkS_234 {F : wq_F} {v : Nat} : ∃ r, dk_234 F v = some (r, F) := by
  unfold dk_234
  simp only [od_ifS]
  exact ⟨_, rfl⟩
theorem dkS_235 {T : Nat → Nat} {n M i : Nat} {F : wq_F} {ls : List (List Nat)} (hM : tk_M T n M) (h : pm_at T n M i F ls) : dk_235 F = some (tb_sr (tk_ty T n (tk_pos T n i)), F) := by
  have hb := pm_b hM h
  have hk := pm_kind h
  unfold dk_235
  simp -implicitDefEqProofs only [od_g1 hb, od_bS, od_letS, hk, pm_isWord hM h (c := 15) (by decide), pm_isWord hM h (c := 1) (by decide)]
  show _ = some (tb_sr (tk_ty T n (tk_pos T n i)), F)
  have hV := tk_Vm h
  rcases tk_ty_all (T := T) (n := n) (p := tk_pos T n i) with e | e | e | e | e | e | e
  · have e1 : tk_k T n i = 1 := e.1
    simp only [e1, e.2]
    rfl
  · have e1 : tk_k T n i = 2 := e.1
    simp only [e1, e.2]
    rfl
  · have e1 : tk_k T n i = 3 := e.1
    simp only [e1, e.2]
    rfl
  · have e1 : tk_k T n i = 4 := e.1
    rw [hV (Or.inl e1)]
    generalize tk_V T n (tk_pos T n i) = v at *
    rw [e.2.1]
    have e2 := e.2.2.2
    have hv : v < 4294967296 := by omega
    try simp only [tb_l2i hv]
    simp only [e1]
    have : v = 1 ∨ v = 2 ∨ v = 3 ∨ v = 4 ∨ v = 5 ∨ v = 6 ∨ v = 7 ∨ v = 8 ∨ v = 9 ∨ v = 10 ∨ v = 11 ∨ v = 12 ∨ v = 13 ∨ v = 14 ∨ v = 15 ∨ v = 16 ∨ v = 17 ∨ v = 18 ∨ v = 19 ∨ v = 20 ∨ v = 21 := by omega
    rcases this with a | a | a | a | a | a | a | a | a | a | a | a | a | a | a | a | a | a | a | a | a <;> (subst a; rfl)
  · have e1 : tk_k T n i = 5 := e.1
    rw [hV (Or.inr e1)]
    generalize tk_V T n (tk_pos T n i) = v at *
    rw [e.2.1]
    have e3 := e.2.2.1
    have hv : v < 4294967296 := Nat.lt_trans (tb_sgl v e3) (by decide)
    unfold lx_signs at e3
    try simp only [tb_l2i hv]
    simp only [e1]
    simp only [List.mem_cons, List.not_mem_nil, or_false] at e3
    rcases e3 with a | a | a | a | a | a | a | a | a | a | a | a | a | a | a | a | a | a | a | a | a | a | a | a | a | a | a | a | a | a <;> (subst a; rfl)
  · have e1 : tk_k T n i = 6 := e.1
    simp only [e1, e.2]
    rfl
  · have e1 : tk_k T n i = 7 := e.1
    simp only [e1, e.2]
    rfl
