/-! ===== 91: both parsers at a token: taking it, refusing it (wip/whole2/91.txt) ===== -/
/-- some token up to i is a name or a string of these bytes -/
def tk_said (T : Nat → Nat) (n i : Nat) (b : List Nat) : Prop := ∃ j, j ≤ i ∧ (tk_k T n j = 1 ∨ tk_k T n j = 3) ∧ tk_B T n (tk_pos T n j) = b
/-- the tokens: M is the last -/
def tk_M (T : Nat → Nat) (n M : Nat) : Prop := M ≤ 1500 ∧ (∀ j, j < M → ¬ tk_k T n j = 6 ∧ ¬ tk_k T n j = 7) ∧ (M = 1500 ∨ tk_k T n M = 6 ∨ tk_k T n M = 7) ∧ n ≤ 6000 ∧ ∀ i, i < n → T i < 256
/-- the reference at token i, nothing wrong so far -/
def pm_at (T : Nat → Nat) (n M i : Nat) (F : wq_F) (ls : List (List Nat)) : Prop := F 0 4 = 0 ∧ F 0 25 = i ∧ i ≤ M ∧ F 1 = T ∧ F 0 2 = n ∧ rt_ok T n F (M + 1) ls ∧ rs_ok F ls
/-- where a token's bytes end at the most -/
def tk_X (T : Nat → Nat) (n i : Nat) : Nat := if tk_k T n i = 6 ∨ tk_k T n i = 7 then tk_pos T n i else tk_E T n (tk_pos T n i)
/-- the class at token i, nothing refused so far; c0, G0: the strings and the memory at the beginning -/
def px_at (T : Nat → Nat) (n : Nat) (G0 : wq_F) (c0 : List (List Nat)) (O i : Nat) (G : wq_F) (cs : List (List Nat)) : Prop :=
  G 56 4 = 0 ∧ (G 57 4 = tk_ty T n (tk_pos T n i) ∧ G 57 5 = tk_pos T n i ∧ G 57 6 = 1 + lc T (tk_pos T n i) ∧ G 57 7 = (if tk_k T n i = 6 then i else i + 1)) ∧
  (¬ tk_k T n i = 6 ∧ ¬ tk_k T n i = 7 → G 57 3 = tk_E T n (tk_pos T n i)) ∧
  (tk_k T n i = 2 → G 57 8 = 18446744073709551616 + tk_V T n (tk_pos T n i)) ∧
  (tk_k T n i = 1 ∨ tk_k T n i = 3 → ∃ s, G 57 8 = 18446744073709551616 + s ∧ s < cs.length ∧ cs.getD s [] = tk_B T n (tk_pos T n i)) ∧
  (cs_ok G cs ∧ cs_w cs ∧ cs.length ≤ c0.length + i + 1 ∧ st_off cs cs.length ≤ O + tk_X T n i ∧ G 57 2 = n ∧ (∀ i, i < n → G 1 i = ev_b8 (T i))) ∧
  ((∀ s, s < c0.length → cs.getD s [] = c0.getD s []) ∧ c0.length ≤ cs.length ∧ (∀ s, c0.length ≤ s → s < cs.length → tk_said T n i (cs.getD s []) ∧ G 9 s = 3) ∧
    (∀ s, s < c0.length → G 9 s = G0 9 s ∨ (G0 9 s = 2 ∧ G 9 s = 3)) ∧ (∀ s, s < c0.length → (G0 9 s = 2 ∧ G 9 s = 3 ↔ G0 9 s = 2 ∧ tk_said T n i (c0.getD s []))) ∧ G 2 11 = cs.length)
/-- the class is stopped: the fault's number, place, line -/
def ps_at (k p l : Nat) (G : wq_F) : Prop := G 57 4 = 5 ∧ G 56 4 = k ∧ ¬ k = 0 ∧ G 56 5 = p ∧ G 56 6 = l
/-- what next() leaves as it was -/
def px_fr (G H : wq_F) : Prop := ∀ c j, (c < 2 ∨ 10 < c ∨ c = 2) → (c = 2 → j ≠ 6 ∧ j ≠ 8 ∧ j ≠ 9 ∧ j ≠ 11 ∧ j ≠ 15) → (c = 57 → j < 3 ∨ 8 < j) → H c j = G c j
theorem tk_M_k {T : Nat → Nat} {n M i : Nat} (h : tk_M T n M) (hi : i < M) : ¬ tk_K T n (tk_pos T n i) = 6 ∧ ¬ tk_K T n (tk_pos T n i) = 7 := h.2.1 i hi
theorem tk_pos_le {T : Nat → Nat} {n M : Nat} (h : tk_M T n M) : ∀ i, i ≤ M → tk_pos T n i ≤ n
  | 0, _ => lx_skip_le _ _ (Nat.zero_le _)
  | i + 1, hi => lx_skip_le _ _ (tk_E_b (tk_M_k h (show i < M by omega)).1 (tk_M_k h (show i < M by omega)).2).2.2.1
/-! the reference's small methods -/
theorem pm_here {T : Nat → Nat} {n M i : Nat} {F : wq_F} {ls : List (List Nat)} (hM : tk_M T n M) (h : pm_at T n M i F ls) : dk_210 F = some (tk_pos T n i, F) := by
  obtain ⟨h1, h2, h3, h4, h5, h6, h7⟩ := h
  unfold dk_210
  rw [h2, od_g1 (by have := hM.1; omega), (h6 i (by omega)).1]
theorem pm_kind {T : Nat → Nat} {n M i : Nat} {F : wq_F} {ls : List (List Nat)} (h : pm_at T n M i F ls) : F 9 (F 0 25) = tk_k T n i := by
  rw [h.2.1]
  exact (h.2.2.2.2.2.1 i (by have := h.2.2.1; omega)).2.1
/-- a fault told -/
def pm_f (F : wq_F) (k p : Nat) : wq_F := wq_up (wq_up F 0 4 k) 0 5 p
theorem pm_fail {T : Nat → Nat} {n M i k p : Nat} {F : wq_F} {ls : List (List Nat)} (h : pm_at T n M i F ls) : dk_209 F k p = some (0, pm_f F k p) := by
  unfold dk_209
  rw [if_pos h.1, od_upS, od_upS]
  rfl
/-- a fault at this token: none of the awaited -/
def tk_wr (T : Nat → Nat) (n i : Nat) : Nat := if tk_k T n i = 7 then 1 else 2
theorem pm_wrong {T : Nat → Nat} {n M i : Nat} {F : wq_F} {ls : List (List Nat)} (hM : tk_M T n M) (h : pm_at T n M i F ls) : dk_211 F = some (0, pm_f F (tk_wr T n i) (tk_pos T n i)) := by
  unfold dk_211 tk_wr
  have hk := pm_kind h
  rw [od_g1 (by rw [h.2.1]; have := hM.1; have := h.2.2.1; omega)]
  by_cases q : tk_k T n i = 7
  · rw [if_pos (hk.trans q), if_pos q, pm_here hM h, od_bS]
    dsimp only
    rw [pm_fail h, od_bS]
  · rw [if_neg (fun z => q (hk.symm.trans z)), if_neg q, pm_here hM h, od_bS]
    dsimp only
    rw [pm_fail h, od_bS]
theorem pm_take {T : Nat → Nat} {n M i : Nat} {F : wq_F} {ls : List (List Nat)} (hM : tk_M T n M) (h : pm_at T n M i F ls) (h7 : ¬ tk_k T n i = 7) : dk_212 F = if i = 1500 then some (0, pm_f F 3 (tk_pos T n i)) else some (1, wq_up F 0 25 (i + 1)) := by
  unfold dk_212
  have hk := pm_kind h
  have hb : i ≤ 1500 := by have := hM.1; have := h.2.2.1; omega
  rw [od_g1 (by rw [h.2.1]; omega), if_neg (fun z => h7 (hk.symm.trans z)), h.2.1]
  by_cases q : i = 1500
  · rw [if_pos q, if_pos q, pm_here hM h, od_bS]
    dsimp only
    rw [pm_fail h, od_bS]
  · rw [if_neg q, if_neg q, od_upS, Nat.mod_eq_of_lt (show i + 1 < 4294967296 by omega)]
theorem pm_next {T : Nat → Nat} {n M i : Nat} {F : wq_F} {ls : List (List Nat)} (h : pm_at T n M i F ls) (hi : i < M) : pm_at T n M (i + 1) (wq_up F 0 25 (i + 1)) ls := by
  obtain ⟨h1, h2, h3, h4, h5, h6, h7⟩ := h
  have e : ∀ c, c ≠ 0 → wq_up F 0 25 (i + 1) c = F c := fun c hc => funext fun j => wq_up_cell hc
  refine ⟨by rw [wq_up_at (by decide)]; exact h1, wq_up_same _ _ _ _, hi, by rw [e 1 (by decide)]; exact h4, by rw [wq_up_at (by decide)]; exact h5, fun j hj => ?_, rs_ok_f h7 (by decide) (by decide)⟩
  rw [e 9 (by decide), e 10 (by decide), e 11 (by decide), e 5 (by decide)]
  exact h6 j hj
/-- this token is such a word, such a sign -/
theorem pm_tokB {k c v : Nat} (hc : c < 2147483648) : (ev_oCmpL (18446744073709551616 + v - 18446744073709551616) (ev_oI2l c - 18446744073709551616) = 0) ↔ v = c := by
  rw [nx_i2l hc]
  exact wd_cmpK
theorem pm_isSign {T : Nat → Nat} {n M i c : Nat} {F : wq_F} {ls : List (List Nat)} (hM : tk_M T n M) (h : pm_at T n M i F ls) (hc : c < 2147483648) : dk_36 F c = some (if tk_k T n i = 5 ∧ tk_V T n (tk_pos T n i) = c then 1 else 0, F) := by
  unfold dk_36
  have hk := pm_kind h
  have hb : F 0 25 < 1502 := by rw [h.2.1]; have := hM.1; have := h.2.2.1; omega
  rw [od_g1 hb]
  by_cases q : tk_k T n i = 5
  · have hv : F 11 (F 0 25) = tk_V T n (tk_pos T n i) := by
      rw [h.2.1]
      exact (h.2.2.2.2.2.1 i (by have := h.2.2.1; omega)).2.2.1 (Or.inr (Or.inr q))
    rw [if_pos (hk.trans q), od_g1 hb, od_letS, od_letS, hv]
    by_cases z : tk_V T n (tk_pos T n i) = c
    · rw [if_pos ((pm_tokB (k := 0) hc).mpr z), if_pos ⟨q, z⟩]
    · rw [if_neg (fun y => z ((pm_tokB (k := 0) hc).mp y)), if_neg (fun y => z y.2)]
  · rw [if_neg (fun z => q (hk.symm.trans z)), if_neg (fun y => q y.1)]
theorem pm_isWord {T : Nat → Nat} {n M i c : Nat} {F : wq_F} {ls : List (List Nat)} (hM : tk_M T n M) (h : pm_at T n M i F ls) (hc : c < 2147483648) : dk_34 F c = some (if tk_k T n i = 4 ∧ tk_V T n (tk_pos T n i) = c then 1 else 0, F) := by
  unfold dk_34
  have hk := pm_kind h
  have hb : F 0 25 < 1502 := by rw [h.2.1]; have := hM.1; have := h.2.2.1; omega
  rw [od_g1 hb]
  by_cases q : tk_k T n i = 4
  · have hv : F 11 (F 0 25) = tk_V T n (tk_pos T n i) := by
      rw [h.2.1]
      exact (h.2.2.2.2.2.1 i (by have := h.2.2.1; omega)).2.2.1 (Or.inr (Or.inl q))
    rw [if_pos (hk.trans q), od_g1 hb, od_letS, od_letS, hv]
    by_cases z : tk_V T n (tk_pos T n i) = c
    · rw [if_pos ((pm_tokB (k := 0) hc).mpr z), if_pos ⟨q, z⟩]
    · rw [if_neg (fun y => z ((pm_tokB (k := 0) hc).mp y)), if_neg (fun y => z y.2)]
  · rw [if_neg (fun z => q (hk.symm.trans z)), if_neg (fun y => q y.1)]
theorem pm_line {T : Nat → Nat} {n M i : Nat} {F : wq_F} {ls : List (List Nat)} (hM : tk_M T n M) (h : pm_at T n M i F ls) : dk_215 F = some (1 + lc T (tk_pos T n i), F) := by
  unfold dk_215
  rw [pm_here hM h, od_bS]
  dsimp only
  rw [dkS_196 h.2.2.2.2.1 hM.2.2.2.1 (tk_pos_le hM i h.2.2.1), od_bS, h.2.2.2.1]
/-! the class's small methods -/
theorem px_refused {G : wq_F} {k p l c : Nat} (h : ps_at k p l G) : dk_109 G c = some (0, G) := by
  unfold dk_109
  rw [if_neg (fun z => h.2.2.1 (h.2.1.symm.trans z))]
theorem px_stopped {nn : Nat} {G : wq_F} {k p l : Nat} (h : ps_at k p l G) : dk_77 nn G = some (0, G) := by
  have h73 : dk_73 nn G = some (5, G) := if_pos h.1
  have h28 : dk_77_28 nn G = some (0, G) := by
    unfold dk_77_28
    rw [h73, od_bS]
    dsimp only
    rw [if_neg (by decide), if_neg (by decide), if_neg (by decide), if_neg (by decide)]
  unfold dk_77
  by_cases q : ev_s 1500 < ev_s (G 57 7)
  · rw [if_pos q, if_neg (fun z => by have := h.1; omega), px_refused h, od_bS]
    exact h28
  · rw [if_neg q]
    exact h28
/-- a fault refused: its number, by the token -/
def px_r (G : wq_F) (k : Nat) : wq_F := wq_up (wq_up (wq_up (wq_up G 56 4 k) 56 5 (G 57 5)) 56 6 (G 57 6)) 57 4 5
theorem px_refuse {G : wq_F} {c : Nat} (h0 : G 56 4 = 0) (hc : 0 < c ∧ c < 5) (h7 : G 57 7 < 2147483648) : ∃ H, dk_109 G c = some (0, H) ∧ ps_at (if c = 2 ∧ G 57 4 = 1 then 1 else if c = 4 ∧ 1500 < G 57 7 then 3 else c) (G 57 5) (G 57 6) H ∧ (∀ d j, ¬ (d = 56 ∧ (j = 4 ∨ j = 5 ∨ j = 6)) → ¬ (d = 57 ∧ j = 4) → H d j = G d j) := by
  have fin : ∀ (B : wq_F) (k : Nat), ¬ k = 0 → B 56 4 = k → (∀ d j, ¬ (d = 56 ∧ (j = 4 ∨ j = 5 ∨ j = 6)) → B d j = G d j) → ∃ H, dk_109_60 B = some (0, H) ∧ ps_at k (G 57 5) (G 57 6) H ∧ (∀ d j, ¬ (d = 56 ∧ (j = 4 ∨ j = 5 ∨ j = 6)) → ¬ (d = 57 ∧ j = 4) → H d j = G d j) := fun B k hk hB hf => by
    unfold dk_109_60
    rw [od_upS, od_upS]
    refine ⟨wq_up (wq_up (wq_up B 56 5 (B 57 5)) 56 6 (wq_up B 56 5 (B 57 5) 57 6)) 57 4 5, ?_, ⟨wq_up_same _ _ _ _, ?_, hk, ?_, ?_⟩, fun d j h1 h2 => ?_⟩
    · rfl
    · rw [wq_up_cell (by decide), wq_up_at (by decide), wq_up_at (by decide)]
      exact hB
    · rw [wq_up_cell (by decide), wq_up_at (by decide), wq_up_same]
      exact hf 57 5 (by decide)
    · rw [wq_up_cell (by decide), wq_up_same, wq_up_cell (by decide)]
      exact hf 57 6 (by decide)
    · rw [wq_up_ne (fun z => h2 z), wq_up_ne (fun z => h1 ⟨z.1, Or.inr (Or.inr z.2)⟩), wq_up_ne (fun z => h1 ⟨z.1, Or.inr (Or.inl z.2)⟩)]
      exact hf d j h1
  have up : ∀ (B : wq_F) (k : Nat), (∀ d j, ¬ (d = 56 ∧ (j = 4 ∨ j = 5 ∨ j = 6)) → B d j = G d j) → (∀ d j, ¬ (d = 56 ∧ (j = 4 ∨ j = 5 ∨ j = 6)) → wq_up B 56 4 k d j = G d j) := fun B k hB d j h1 => by
    rw [wq_up_ne (fun z => h1 ⟨z.1, Or.inl z.2⟩)]
    exact hB d j h1
  have u1 := up G c (fun d j _ => rfl)
  unfold dk_109
  rw [if_pos h0, od_upS]
  have e4 : wq_up G 56 4 c 57 4 = G 57 4 := wq_up_cell (by decide)
  have e7 : wq_up G 56 4 c 57 7 = G 57 7 := wq_up_cell (by decide)
  by_cases c2 : c = 2
  · rw [if_pos c2]
    by_cases b : G 57 4 = 1
    · rw [if_pos (e4.trans b), od_upS, if_pos ⟨c2, b⟩]
      exact fin _ 1 (by decide) (wq_up_same _ _ _ _) (up _ 1 u1)
    · rw [if_neg (fun z => b (e4.symm.trans z)), if_neg (fun z => b z.2), if_neg (fun z => by have := z.1; omega)]
      unfold dk_109_37
      rw [if_neg (by omega)]
      exact fin _ c (by omega) (wq_up_same _ _ _ _) u1
  · rw [if_neg c2, if_neg (fun z => c2 z.1)]
    unfold dk_109_37
    by_cases c4 : c = 4
    · rw [if_pos c4, e7]
      by_cases b : 1500 < G 57 7
      · rw [if_pos ((wd_slt (by decide) h7).mpr b), od_upS, if_pos ⟨c4, b⟩]
        exact fin _ 3 (by decide) (wq_up_same _ _ _ _) (up _ 3 u1)
      · rw [if_neg (fun z => b ((wd_slt (by decide) h7).mp z)), if_neg (fun z => b z.2)]
        exact fin _ c (by omega) (wq_up_same _ _ _ _) u1
    · rw [if_neg c4, if_neg (fun z => c4 z.1)]
      exact fin _ c (by omega) (wq_up_same _ _ _ _) u1
