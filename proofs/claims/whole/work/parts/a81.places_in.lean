/-! ===== a81: the place of the token and of the fault lie in the text (written by wip/whole2/lawa81.py) ===== -/
/-- the text is v long, the token's place and a fault's are in it -/
def pq0 (v : Nat) (F : wq_F) : Prop := F 57 2 = v ∧ F 57 5 ≤ v
def pq2 (v : Nat) (F : wq_F) : Prop := pq0 v F ∧ (F 56 4 = 0 ∨ F 56 5 ≤ v)
/-- if it ends, they are -/
def qe (v : Nat) (m : Option (Nat × wq_F)) : Prop := ∀ x, m = some x → pq2 v x.2
theorem qe_n {v : Nat} : qe v none := fun x h => nomatch h
theorem qe_r {v r : Nat} {K : wq_F} (h : pq2 v K) : qe v (some (r, K)) := fun x e => by
  rw [← Option.some.inj e]
  exact h
theorem qe_b {v : Nat} {m : Option (Nat × wq_F)} {f : Nat × wq_F → Option (Nat × wq_F)} (h : qe v m) (g : ∀ r K, pq2 v K → qe v (f (r, K))) : qe v (m.bind f) := fun x e => by
  cases m with
  | none => exact nomatch (show (none : Option (Nat × wq_F)) = some x from e)
  | some y => exact g y.1 y.2 (h y rfl) x e
theorem qe_i {v : Nat} {c : Prop} [Decidable c] {a b : Option (Nat × wq_F)} (h1 : qe v a) (h2 : qe v b) : qe v (if c then a else b) := by
  by_cases q : c
  · rw [if_pos q]
    exact h1
  · rw [if_neg q]
    exact h2
theorem qe_g {v : Nat} {c : Prop} [Decidable c] {k : Option (Nat × wq_F)} (h : qe v k) : qe v (od_g c k) := qe_i h qe_n
theorem qe_l {v x : Nat} {k : Nat → Option (Nat × wq_F)} (h : ∀ y, qe v (k y)) : qe v (od_let x k) := h x
theorem pq0_u {v c i x : Nat} {F : wq_F} (hc : ¬ (c = 57 ∧ (i = 2 ∨ i = 5))) (h : pq0 v F) : pq0 v (wq_up F c i x) := ⟨(wq_up_ne (by omega)).trans h.1, by rw [wq_up_ne (by omega)]; exact h.2⟩
theorem pq2_u {v c i x : Nat} {F : wq_F} (hc : ¬ (c = 57 ∧ (i = 2 ∨ i = 5)) ∧ ¬ (c = 56 ∧ (i = 4 ∨ i = 5))) (h : pq2 v F) : pq2 v (wq_up F c i x) := ⟨pq0_u hc.1 h.1, by rw [wq_up_ne (by omega), wq_up_ne (by omega)]; exact h.2⟩
theorem qe_u {v c i x : Nat} {F : wq_F} {k : wq_F → Option (Nat × wq_F)} (hc : ¬ (c = 57 ∧ (i = 2 ∨ i = 5)) ∧ ¬ (c = 56 ∧ (i = 4 ∨ i = 5))) (h : pq2 v F) (g : ∀ H, pq2 v H → qe v (k H)) : qe v (od_up F c i x k) := g _ (pq2_u hc h)
theorem qe_c {v s sp t dp n : Nat} {F : wq_F} {k : wq_F → Option (Nat × wq_F)} (hc : ¬ t = 56 ∧ ¬ t = 57) (h : pq2 v F) (g : ∀ H, pq2 v H → qe v (k H)) : qe v (od_cp F s sp t dp n k) := g _ ⟨⟨(if_neg (fun z => hc.2 z.1.symm)).trans h.1.1, Nat.le_trans (Nat.le_of_eq (if_neg (fun z => hc.2 z.1.symm))) h.1.2⟩, h.2.elim (fun z => Or.inl ((if_neg (fun z => hc.1 z.1.symm)).trans z)) (fun z => Or.inr (Nat.le_trans (Nat.le_of_eq (if_neg (fun z => hc.1 z.1.symm))) z))⟩
section
variable {v : Nat}
theorem qe_109_60 {F : wq_F} (h : pq0 v F) : qe v (dk_109_60 F) := by
  unfold dk_109_60 dk_184
  rw [od_upS, od_upS, od_upS, od_bS]
  refine qe_r ⟨pq0_u (by omega) (pq0_u (by omega) (pq0_u (by omega) h)), Or.inr ?_⟩
  dsimp only
  rw [wq_up_cell (by decide), wq_up_at (by decide), wq_up_same]
  exact h.2
theorem qe_109_37 {F : wq_F} {v1 : Nat} (h : pq0 v F) : qe v (dk_109_37 F v1) := by
  unfold dk_109_37
  exact qe_i (qe_i (qe_109_60 (pq0_u (by omega) h)) (qe_109_60 h)) (qe_109_60 h)
theorem qe_109 {F : wq_F} {a0 : Nat} (h : pq2 v F) : qe v (dk_109 F a0) := by
  unfold dk_109
  refine qe_i ?_ (qe_r h)
  rw [od_upS]
  have h0 : pq0 v (wq_up F 56 4 a0) := pq0_u (by omega) h.1
  refine qe_i (qe_i ?_ (qe_109_37 h0)) (qe_109_37 h0)
  rw [od_upS]
  exact qe_109_60 (pq0_u (by omega) h0)
theorem qe_188 {F : wq_F} {a0 : Nat} (h : pq2 v F) : qe v (dk_188 F a0) := by
  unfold dk_188
  exact qe_r (by assumption)
theorem qe_187 {F : wq_F} {a0 : Nat} (h : pq2 v F) : qe v (dk_187 F a0) := by
  unfold dk_187
  exact qe_r (by assumption)
theorem qe_74 {F : wq_F} {a0 : Nat} (h : pq2 v F) : qe v (dk_74 F a0) := by
  unfold dk_74
  exact qe_g (qe_r h)
theorem qe_73_24 {n g : Nat} {F : wq_F} {x0 x1 : Nat} (h : pq2 v F) (hx : x0 ≤ v) : qe v (dk_73_24 n g F x0 x1) := by
  induction g generalizing F x1 with
  | zero => exact qe_n
  | succ g ih =>
    show qe v (dk_73_24b n (dk_73_24 n g) F x0 x1)
    unfold dk_73_24b
    refine qe_i (qe_g (qe_i (qe_u (by omega) h (fun _ h1 => qe_l (fun _ => ih h1))) (qe_l (fun _ => ih h)))) ?_
    rw [od_upS]
    have h2 : pq2 v (wq_up F 57 5 x0) := ⟨⟨(wq_up_at (by decide)).trans h.1.1, by rw [wq_up_same]; exact hx⟩, by rw [wq_up_cell (by decide), wq_up_cell (by decide)]; exact h.2⟩
    refine qe_u (by omega) h2 (fun _ h3 => qe_i (qe_u (by omega) h3 (fun _ h4 => qe_g (qe_b (qe_188 h4) (fun _ _ h5 => qe_i (qe_b (qe_187 h5) (fun _ _ h6 => qe_i (qe_i (qe_r h6) (qe_i (qe_r h6) (qe_r h6))) (qe_r h6))) (qe_r h5))))) (qe_u (by omega) h3 (fun _ h4 => qe_r h4)))
theorem qe_73 {n : Nat} {F : wq_F} (h : pq2 v F) : qe v (dk_73 n F) := by
  unfold dk_73
  refine qe_i (qe_r h) ?_
  unfold dk_74
  by_cases q : F 57 2 ≤ 6000 ∧ F 57 3 ≤ F 57 2
  · rw [od_g1 q, od_bS]
    have z : lx_skip (F 1) (F 57 2) (F 57 2 + 1) (F 57 3) ≤ F 57 2 := lx_skip_le _ _ q.2
    rw [h.1.1] at z
    refine qe_73_24 h ?_
    show lx_skip (F 1) (F 57 2) (F 57 2 + 1) (F 57 3) ≤ v
    rw [h.1.1]
    exact z
  · rw [show od_g (F 57 2 ≤ 6000 ∧ F 57 3 ≤ F 57 2) (some (lx_skip (F 1) (F 57 2) (F 57 2 + 1) (F 57 3), F)) = none from if_neg q]
    exact qe_n
theorem qe_186 {F : wq_F} {a0 : Nat} (h : pq2 v F) : qe v (dk_186 F a0) := by
  unfold dk_186
  exact qe_g (qe_r h)
theorem qe_195 {F : wq_F} {a0 : Nat} {a1 : Nat} (h : pq2 v F) : qe v (dk_195 F a0 a1) := by
  unfold dk_195
  exact qe_r (by assumption)
theorem qe_194_111 {F : wq_F} {s0 : Nat} (h : pq2 v F) : qe v (dk_194_111 F s0) := by
  unfold dk_194_111
  refine qe_i ?_ ?_
  refine qe_u (by omega) (by assumption) (fun _ _ => ?_)
  refine qe_u (by omega) (by assumption) (fun _ _ => ?_)
  exact qe_r (by assumption)
  refine qe_u (by omega) (by assumption) (fun _ _ => ?_)
  refine qe_u (by omega) (by assumption) (fun _ _ => ?_)
  exact qe_r (by assumption)
theorem qe_194_73 {F : wq_F} {v1 : Nat} {v3 : Nat} (h : pq2 v F) : qe v (dk_194_73 F v1 v3) := by
  unfold dk_194_73
  refine qe_i ?_ ?_
  refine qe_i ?_ ?_
  exact qe_194_111 (by assumption)
  refine qe_g ?_
  exact qe_194_111 (by assumption)
  refine qe_u (by omega) (by assumption) (fun _ _ => ?_)
  refine qe_u (by omega) (by assumption) (fun _ _ => ?_)
  exact qe_r (by assumption)
theorem qe_194 {F : wq_F} (h : pq2 v F) : qe v (dk_194 F) := by
  unfold dk_194
  refine qe_g ?_
  refine qe_b (qe_186 (by assumption)) (fun _ _ _ => ?_)
  refine qe_b (qe_195 (by assumption)) (fun _ _ _ => ?_)
  refine qe_i ?_ ?_
  refine qe_i ?_ ?_
  refine qe_l (fun _ => ?_)
  refine qe_b (qe_186 (by assumption)) (fun _ _ _ => ?_)
  refine qe_i ?_ ?_
  refine qe_u (by omega) (by assumption) (fun _ _ => ?_)
  refine qe_l (fun _ => ?_)
  refine qe_u (by omega) (by assumption) (fun _ _ => ?_)
  exact qe_r (by assumption)
  exact qe_194_73 (by assumption)
  exact qe_194_73 (by assumption)
  exact qe_194_73 (by assumption)
theorem qe_10 {F : wq_F} (h : pq2 v F) : qe v (dk_10 F) := by
  unfold dk_10
  refine qe_u (by omega) (by assumption) (fun _ _ => ?_)
  exact qe_r (by assumption)
theorem qe_8_127 {n : Nat} {r64 : wq_F → Nat → Option (Nat × wq_F)} {F : wq_F} {v2 : Nat} {v3 : Nat} (hr64 : ∀ K x0, pq2 v K → qe v (r64 K x0)) (h : pq2 v F) : qe v (dk_8_127 n r64 F v2 v3) := by
  unfold dk_8_127
  refine qe_i ?_ ?_
  exact qe_r (by assumption)
  refine qe_g ?_
  refine qe_l (fun _ => ?_)
  exact hr64 _ _ (by assumption)
theorem qe_8_87b {n : Nat} {r64 : wq_F → Nat → Option (Nat × wq_F)} {r87 : wq_F → Nat → Nat → Option (Nat × wq_F)} {F : wq_F} {v2 : Nat} {v3 : Nat} (hr64 : ∀ K x0, pq2 v K → qe v (r64 K x0)) (hr87 : ∀ K x0 x1, pq2 v K → qe v (r87 K x0 x1)) (h : pq2 v F) : qe v (dk_8_87b n r64 r87 F v2 v3) := by
  unfold dk_8_87b
  refine qe_i ?_ ?_
  exact qe_8_127 hr64 (by assumption)
  refine qe_i ?_ ?_
  refine qe_g ?_
  refine qe_g ?_
  refine qe_l (fun _ => ?_)
  refine qe_g ?_
  refine qe_i ?_ ?_
  refine qe_l (fun _ => ?_)
  exact hr87 _ _ _ (by assumption)
  exact qe_8_127 hr64 (by assumption)
  exact qe_8_127 hr64 (by assumption)
theorem qe_8_87 {n : Nat} {r64 : wq_F → Nat → Option (Nat × wq_F)} {g : Nat} {F : wq_F} {x0 : Nat} {x1 : Nat} (hr64 : ∀ K x0, pq2 v K → qe v (r64 K x0)) (h : pq2 v F) : qe v (dk_8_87 n r64 g F x0 x1) := by
  induction g generalizing F x0 x1 with
  | zero => exact qe_n
  | succ g ih =>
    exact qe_8_87b hr64 (fun K x0 x1 h => by first | exact ih h | exact ih K x0 x1 h) h
theorem qe_8_64b {n : Nat} {r64 : wq_F → Nat → Option (Nat × wq_F)} {F : wq_F} {v2 : Nat} (hr64 : ∀ K x0, pq2 v K → qe v (r64 K x0)) (h : pq2 v F) : qe v (dk_8_64b n r64 F v2) := by
  unfold dk_8_64b
  refine qe_i ?_ ?_
  exact qe_r (by assumption)
  refine qe_g ?_
  refine qe_i ?_ ?_
  exact qe_8_87 hr64 (by assumption)
  exact qe_8_87 hr64 (by assumption)
theorem qe_8_64 {n : Nat} {g : Nat} {F : wq_F} {x0 : Nat} (h : pq2 v F) : qe v (dk_8_64 n g F x0) := by
  induction g generalizing F x0 with
  | zero => exact qe_n
  | succ g ih =>
    exact qe_8_64b (fun K x0 h => by first | exact ih h | exact ih K x0 h) h
theorem qe_8_7b {n : Nat} {r7 : wq_F → Nat → Nat → Option (Nat × wq_F)} {F : wq_F} {v1 : Nat} {v2 : Nat} (hr7 : ∀ K x0 x1, pq2 v K → qe v (r7 K x0 x1)) (h : pq2 v F) : qe v (dk_8_7b n r7 F v1 v2) := by
  unfold dk_8_7b
  refine qe_i ?_ ?_
  refine qe_g ?_
  refine qe_l (fun _ => ?_)
  refine qe_l (fun _ => ?_)
  exact hr7 _ _ _ (by assumption)
  refine qe_l (fun _ => ?_)
  refine qe_u (by omega) (by assumption) (fun _ _ => ?_)
  refine qe_g ?_
  refine qe_l (fun _ => ?_)
  exact qe_8_64 (by assumption)
theorem qe_8_7 {n : Nat} {g : Nat} {F : wq_F} {x0 : Nat} {x1 : Nat} (h : pq2 v F) : qe v (dk_8_7 n g F x0 x1) := by
  induction g generalizing F x0 x1 with
  | zero => exact qe_n
  | succ g ih =>
    exact qe_8_7b (fun K x0 x1 h => by first | exact ih h | exact ih K x0 x1 h) h
theorem qe_8 {n : Nat} {F : wq_F} (h : pq2 v F) : qe v (dk_8 n F) := by
  unfold dk_8
  exact qe_8_7 (by assumption)
theorem qe_182 {n : Nat} {F : wq_F} (h : pq2 v F) : qe v (dk_182 n F) := by
  unfold dk_182
  refine qe_b (qe_8 (by assumption)) (fun _ _ _ => ?_)
  refine qe_i ?_ ?_
  exact qe_r (by assumption)
  refine qe_i ?_ ?_
  refine qe_l (fun _ => ?_)
  exact qe_r (by assumption)
  exact qe_r (by assumption)
theorem qe_9 {F : wq_F} (h : pq2 v F) : qe v (dk_9 F) := by
  unfold dk_9
  refine qe_i ?_ ?_
  refine qe_l (fun _ => ?_)
  refine qe_i ?_ ?_
  exact qe_r (by assumption)
  refine qe_g ?_
  refine qe_c (by omega) (by assumption) (fun _ _ => ?_)
  refine qe_g ?_
  refine qe_u (by omega) (by assumption) (fun _ _ => ?_)
  refine qe_g ?_
  refine qe_u (by omega) (by assumption) (fun _ _ => ?_)
  refine qe_g ?_
  refine qe_u (by omega) (by assumption) (fun _ _ => ?_)
  refine qe_g ?_
  refine qe_g ?_
  refine qe_u (by omega) (by assumption) (fun _ _ => ?_)
  refine qe_g ?_
  refine qe_u (by omega) (by assumption) (fun _ _ => ?_)
  refine qe_l (fun _ => ?_)
  refine qe_u (by omega) (by assumption) (fun _ _ => ?_)
  refine qe_u (by omega) (by assumption) (fun _ _ => ?_)
  exact qe_r (by assumption)
  exact qe_r (by assumption)
theorem qe_181 {n : Nat} {F : wq_F} (h : pq2 v F) : qe v (dk_181 n F) := by
  unfold dk_181
  refine qe_b (qe_8 (by assumption)) (fun _ _ _ => ?_)
  refine qe_i ?_ ?_
  refine qe_b (qe_9 (by assumption)) (fun _ _ _ => ?_)
  refine qe_g ?_
  refine qe_u (by omega) (by assumption) (fun _ _ => ?_)
  refine qe_u (by omega) (by assumption) (fun _ _ => ?_)
  exact qe_r (by assumption)
  refine qe_g ?_
  refine qe_i ?_ ?_
  refine qe_g ?_
  refine qe_u (by omega) (by assumption) (fun _ _ => ?_)
  refine qe_u (by omega) (by assumption) (fun _ _ => ?_)
  exact qe_r (by assumption)
  refine qe_u (by omega) (by assumption) (fun _ _ => ?_)
  exact qe_r (by assumption)
theorem qe_190_63 {n : Nat} {F : wq_F} {v1 : Nat} (h : pq2 v F) : qe v (dk_190_63 n F v1) := by
  unfold dk_190_63
  refine qe_u (by omega) (by assumption) (fun _ _ => ?_)
  refine qe_b (qe_182 (by assumption)) (fun _ _ _ => ?_)
  refine qe_i ?_ ?_
  refine qe_l (fun _ => ?_)
  refine qe_i ?_ ?_
  refine qe_u (by omega) (by assumption) (fun _ _ => ?_)
  exact qe_r (by assumption)
  refine qe_u (by omega) (by assumption) (fun _ _ => ?_)
  refine qe_b (qe_181 (by assumption)) (fun _ _ _ => ?_)
  refine qe_u (by omega) (by assumption) (fun _ _ => ?_)
  exact qe_r (by assumption)
  refine qe_u (by omega) (by assumption) (fun _ _ => ?_)
  exact qe_r (by assumption)
theorem qe_0 {F : wq_F} {a0 : Nat} (h : pq2 v F) : qe v (dk_0 F a0) := by
  unfold dk_0
  refine qe_i ?_ ?_
  refine qe_g ?_
  refine qe_u (by omega) (by assumption) (fun _ _ => ?_)
  refine qe_u (by omega) (by assumption) (fun _ _ => ?_)
  exact qe_r (by assumption)
  exact qe_r (by assumption)
theorem qe_190_12b {n : Nat} {r12 : wq_F → Nat → Option (Nat × wq_F)} {F : wq_F} {v1 : Nat} (hr12 : ∀ K x0, pq2 v K → qe v (r12 K x0)) (h : pq2 v F) : qe v (dk_190_12b n r12 F v1) := by
  unfold dk_190_12b
  refine qe_i ?_ ?_
  refine qe_g ?_
  refine qe_b (qe_188 (by assumption)) (fun _ _ _ => ?_)
  refine qe_i ?_ ?_
  refine qe_g ?_
  refine qe_b (qe_187 (by assumption)) (fun _ _ _ => ?_)
  refine qe_i ?_ ?_
  exact qe_190_63 (by assumption)
  refine qe_g ?_
  refine qe_b (qe_0 (by assumption)) (fun _ _ _ => ?_)
  refine qe_l (fun _ => ?_)
  exact hr12 _ _ (by assumption)
  refine qe_g ?_
  refine qe_b (qe_0 (by assumption)) (fun _ _ _ => ?_)
  refine qe_l (fun _ => ?_)
  exact hr12 _ _ (by assumption)
  exact qe_190_63 (by assumption)
theorem qe_190_12 {n : Nat} {g : Nat} {F : wq_F} {x0 : Nat} (h : pq2 v F) : qe v (dk_190_12 n g F x0) := by
  induction g generalizing F x0 with
  | zero => exact qe_n
  | succ g ih =>
    exact qe_190_12b (fun K x0 h => by first | exact ih h | exact ih K x0 h) h
theorem qe_190 {n : Nat} {F : wq_F} (h : pq2 v F) : qe v (dk_190 n F) := by
  unfold dk_190
  refine qe_b (qe_10 (by assumption)) (fun _ _ _ => ?_)
  exact qe_190_12 (by assumption)
theorem qe_191 {F : wq_F} (h : pq2 v F) : qe v (dk_191 F) := by
  unfold dk_191
  exact qe_g (qe_r (pq2_u (by omega) (pq2_u (by omega) (pq2_u (by omega) h))))
theorem qe_176 {F : wq_F} (h : pq2 v F) : qe v (dk_176 F) := by
  unfold dk_176
  exact qe_r (by assumption)
theorem qe_192_107 {n : Nat} {F : wq_F} {v1 : Nat} {v2 : Nat} (h : pq2 v F) : qe v (dk_192_107 n F v1 v2) := by
  unfold dk_192_107
  refine qe_u (by omega) (by assumption) (fun _ _ => ?_)
  refine qe_u (by omega) (by assumption) (fun _ _ => ?_)
  refine qe_b (qe_186 (by assumption)) (fun _ _ _ => ?_)
  refine qe_i ?_ ?_
  refine qe_b (qe_176 (by assumption)) (fun _ _ _ => ?_)
  refine qe_i ?_ ?_
  exact qe_r (by assumption)
  refine qe_u (by omega) (by assumption) (fun _ _ => ?_)
  refine qe_u (by omega) (by assumption) (fun _ _ => ?_)
  refine qe_b (qe_181 (by assumption)) (fun _ _ _ => ?_)
  refine qe_u (by omega) (by assumption) (fun _ _ => ?_)
  exact qe_r (by assumption)
  exact qe_r (by assumption)
theorem qe_193_18 {n : Nat} {F : wq_F} {v2 : Nat} (h : pq2 v F) : qe v (dk_193_18 n F v2) := by
  unfold dk_193_18
  refine qe_i ?_ ?_
  refine qe_b (qe_0 (by assumption)) (fun _ _ _ => ?_)
  exact qe_r (by assumption)
  refine qe_b (qe_0 (by assumption)) (fun _ _ _ => ?_)
  exact qe_r (by assumption)
theorem qe_193_115 {n : Nat} {F : wq_F} {v3 : Nat} {v4 : Nat} (h : pq2 v F) : qe v (dk_193_115 n F v3 v4) := by
  unfold dk_193_115
  refine qe_b (qe_0 (by assumption)) (fun _ _ _ => ?_)
  refine qe_i ?_ ?_
  exact qe_r (by assumption)
  exact qe_r (by assumption)
theorem qe_193_73b {n : Nat} {r73 : wq_F → Nat → Nat → Nat → Option (Nat × wq_F)} {F : wq_F} {v1 : Nat} {v3 : Nat} {v4 : Nat} (hr73 : ∀ K x0 x1 x2, pq2 v K → qe v (r73 K x0 x1 x2)) (h : pq2 v F) : qe v (dk_193_73b n r73 F v1 v3 v4) := by
  unfold dk_193_73b
  refine qe_i ?_ ?_
  refine qe_b (qe_186 (by assumption)) (fun _ _ _ => ?_)
  refine qe_b (qe_187 (by assumption)) (fun _ _ _ => ?_)
  refine qe_i ?_ ?_
  exact qe_193_115 (by assumption)
  refine qe_b (qe_186 (by assumption)) (fun _ _ _ => ?_)
  refine qe_l (fun _ => ?_)
  refine qe_l (fun _ => ?_)
  refine qe_l (fun _ => ?_)
  exact hr73 _ _ _ _ (by assumption)
  exact qe_193_115 (by assumption)
theorem qe_193_73 {n : Nat} {g : Nat} {F : wq_F} {x0 : Nat} {x1 : Nat} {x2 : Nat} (h : pq2 v F) : qe v (dk_193_73 n g F x0 x1 x2) := by
  induction g generalizing F x0 x1 x2 with
  | zero => exact qe_n
  | succ g ih =>
    exact qe_193_73b (fun K x0 x1 x2 h => by first | exact ih h | exact ih K x0 x1 x2 h) h
theorem qe_193 {n : Nat} {F : wq_F} {a0 : Nat} (h : pq2 v F) : qe v (dk_193 n F a0) := by
  unfold dk_193
  refine qe_b (qe_186 (by assumption)) (fun _ _ _ => ?_)
  refine qe_i ?_ ?_
  exact qe_193_18 (by assumption)
  refine qe_i ?_ ?_
  exact qe_193_18 (by assumption)
  refine qe_i ?_ ?_
  refine qe_b (qe_0 (by assumption)) (fun _ _ _ => ?_)
  exact qe_r (by assumption)
  refine qe_i ?_ ?_
  refine qe_b (qe_0 (by assumption)) (fun _ _ _ => ?_)
  exact qe_r (by assumption)
  refine qe_i ?_ ?_
  refine qe_b (qe_0 (by assumption)) (fun _ _ _ => ?_)
  exact qe_r (by assumption)
  exact qe_193_73 (by assumption)
theorem qe_192_24b {n : Nat} {r24 : wq_F → Nat → Nat → Option (Nat × wq_F)} {F : wq_F} {v1 : Nat} {v2 : Nat} (hr24 : ∀ K x0 x1, pq2 v K → qe v (r24 K x0 x1)) (h : pq2 v F) : qe v (dk_192_24b n r24 F v1 v2) := by
  unfold dk_192_24b
  refine qe_i ?_ ?_
  refine qe_g ?_
  refine qe_i ?_ ?_
  exact qe_192_107 (by assumption)
  refine qe_g ?_
  refine qe_i ?_ ?_
  exact qe_192_107 (by assumption)
  refine qe_g ?_
  refine qe_i ?_ ?_
  refine qe_b (qe_193 (by assumption)) (fun _ _ _ => ?_)
  refine qe_i ?_ ?_
  exact qe_192_107 (by assumption)
  refine qe_l (fun _ => ?_)
  exact hr24 _ _ _ (by assumption)
  refine qe_g ?_
  refine qe_b (qe_0 (by assumption)) (fun _ _ _ => ?_)
  refine qe_l (fun _ => ?_)
  exact hr24 _ _ _ (by assumption)
  exact qe_192_107 (by assumption)
theorem qe_192_24 {n : Nat} {g : Nat} {F : wq_F} {x0 : Nat} {x1 : Nat} (h : pq2 v F) : qe v (dk_192_24 n g F x0 x1) := by
  induction g generalizing F x0 x1 with
  | zero => exact qe_n
  | succ g ih =>
    exact qe_192_24b (fun K x0 x1 h => by first | exact ih h | exact ih K x0 x1 h) h
theorem qe_192 {n : Nat} {F : wq_F} (h : pq2 v F) : qe v (dk_192 n F) := by
  unfold dk_192
  refine qe_g ?_
  refine qe_b (qe_10 (by assumption)) (fun _ _ _ => ?_)
  exact qe_192_24 (by assumption)
theorem qe_77_28 {n : Nat} {F : wq_F} (h : pq2 v F) : qe v (dk_77_28 n F) := by
  unfold dk_77_28
  refine qe_b (qe_73 (by assumption)) (fun _ _ _ => ?_)
  refine qe_i ?_ ?_
  refine qe_b (qe_194 (by assumption)) (fun _ _ _ => ?_)
  exact qe_r (by assumption)
  refine qe_i ?_ ?_
  refine qe_b (qe_190 (by assumption)) (fun _ _ _ => ?_)
  exact qe_r (by assumption)
  refine qe_i ?_ ?_
  refine qe_b (qe_191 (by assumption)) (fun _ _ _ => ?_)
  exact qe_r (by assumption)
  refine qe_i ?_ ?_
  refine qe_b (qe_192 (by assumption)) (fun _ _ _ => ?_)
  exact qe_r (by assumption)
  exact qe_r (by assumption)
theorem qe_77 {n : Nat} {F : wq_F} (h : pq2 v F) : qe v (dk_77 n F) := by
  unfold dk_77
  refine qe_i ?_ ?_
  refine qe_i ?_ ?_
  exact qe_77_28 (by assumption)
  refine qe_b (qe_109 (by assumption)) (fun _ _ _ => ?_)
  exact qe_77_28 (by assumption)
  exact qe_77_28 (by assumption)
theorem qe_58 {F : wq_F} {a0 : Nat} {a1 : Nat} {a2 : Nat} {a3 : Nat} (h : pq2 v F) : qe v (dk_58 F a0 a1 a2 a3) := by
  unfold dk_58
  refine qe_i ?_ ?_
  refine qe_g ?_
  refine qe_u (by omega) (by assumption) (fun _ _ => ?_)
  refine qe_g ?_
  refine qe_u (by omega) (by assumption) (fun _ _ => ?_)
  refine qe_g ?_
  refine qe_u (by omega) (by assumption) (fun _ _ => ?_)
  refine qe_g ?_
  refine qe_u (by omega) (by assumption) (fun _ _ => ?_)
  refine qe_l (fun _ => ?_)
  refine qe_u (by omega) (by assumption) (fun _ _ => ?_)
  refine qe_l (fun _ => ?_)
  exact qe_r (by assumption)
  refine qe_l (fun _ => ?_)
  exact qe_r (by assumption)
theorem qe_78 {F : wq_F} {a0 : Nat} {a1 : Nat} {a2 : Nat} {a3 : Nat} (h : pq2 v F) : qe v (dk_78 F a0 a1 a2 a3) := by
  unfold dk_78
  refine qe_b (qe_58 (by assumption)) (fun _ _ _ => ?_)
  exact qe_r (by assumption)
theorem qe_79 {F : wq_F} (h : pq2 v F) : qe v (dk_79 F) := by
  unfold dk_79
  refine qe_l (fun _ => ?_)
  refine qe_i ?_ ?_
  exact qe_r (by assumption)
  refine qe_i ?_ ?_
  exact qe_r (by assumption)
  refine qe_i ?_ ?_
  exact qe_r (by assumption)
  refine qe_i ?_ ?_
  exact qe_r (by assumption)
  refine qe_i ?_ ?_
  exact qe_r (by assumption)
  refine qe_i ?_ ?_
  exact qe_r (by assumption)
  refine qe_i ?_ ?_
  exact qe_r (by assumption)
  refine qe_i ?_ ?_
  exact qe_r (by assumption)
  refine qe_i ?_ ?_
  exact qe_r (by assumption)
  refine qe_i ?_ ?_
  exact qe_r (by assumption)
  refine qe_i ?_ ?_
  exact qe_r (by assumption)
  exact qe_r (by assumption)
theorem qe_80_2b {R : dk_Rt} {n : Nat} {r2 : wq_F → Nat → Nat → Option (Nat × wq_F)} {F : wq_F} {v1 : Nat} {v2 : Nat} (hR : ∀ m as K w, pq2 w K → qe w (R m as K)) (hr2 : ∀ K x0 x1, pq2 v K → qe v (r2 K x0 x1)) (h : pq2 v F) : qe v (dk_80_2b R n r2 F v1 v2) := by
  unfold dk_80_2b
  refine qe_i ?_ ?_
  refine qe_i ?_ ?_
  refine qe_b (hR _ _ _ _ (by assumption)) (fun _ _ _ => ?_)
  exact qe_r (by assumption)
  exact qe_r (by assumption)
  refine qe_b (qe_79 (by assumption)) (fun _ _ _ => ?_)
  refine qe_i ?_ ?_
  refine qe_i ?_ ?_
  refine qe_b (hR _ _ _ _ (by assumption)) (fun _ _ _ => ?_)
  exact qe_r (by assumption)
  exact qe_r (by assumption)
  refine qe_b (hR _ _ _ _ (by assumption)) (fun _ _ _ => ?_)
  refine qe_l (fun _ => ?_)
  exact hr2 _ _ _ (by assumption)
theorem qe_80_2 {R : dk_Rt} {n : Nat} {g : Nat} {F : wq_F} {x0 : Nat} {x1 : Nat} (hR : ∀ m as K w, pq2 w K → qe w (R m as K)) (h : pq2 v F) : qe v (dk_80_2 R n g F x0 x1) := by
  induction g generalizing F x0 x1 with
  | zero => exact qe_n
  | succ g ih =>
    exact qe_80_2b hR (fun K x0 x1 h => by first | exact ih h | exact ih K x0 x1 h) h
theorem qe_80 {R : dk_Rt} {n : Nat} {F : wq_F} {a0 : Nat} (hR : ∀ m as K w, pq2 w K → qe w (R m as K)) (h : pq2 v F) : qe v (dk_80 R n F a0) := by
  unfold dk_80
  exact qe_80_2 hR (by assumption)
theorem qe_82 {F : wq_F} (h : pq2 v F) : qe v (dk_82 F) := by
  unfold dk_82
  refine qe_u (by omega) (by assumption) (fun _ _ => ?_)
  refine qe_u (by omega) (by assumption) (fun _ _ => ?_)
  exact qe_r (by assumption)
theorem qe_83 {F : wq_F} {a0 : Nat} (h : pq2 v F) : qe v (dk_83 F a0) := by
  unfold dk_83
  refine qe_u (by omega) (by assumption) (fun _ _ => ?_)
  refine qe_g ?_
  refine qe_u (by omega) (by assumption) (fun _ _ => ?_)
  refine qe_g ?_
  refine qe_u (by omega) (by assumption) (fun _ _ => ?_)
  refine qe_g ?_
  refine qe_u (by omega) (by assumption) (fun _ _ => ?_)
  refine qe_g ?_
  refine qe_u (by omega) (by assumption) (fun _ _ => ?_)
  exact qe_r (by assumption)
theorem qe_84 {F : wq_F} (h : pq2 v F) : qe v (dk_84 F) := by
  unfold dk_84
  refine qe_g ?_
  exact qe_r (by assumption)
theorem qe_110 {n : Nat} {F : wq_F} {a0 : Nat} (h : pq2 v F) : qe v (dk_110 n F a0) := by
  unfold dk_110
  refine qe_i ?_ ?_
  refine qe_b (qe_77 (by assumption)) (fun _ _ _ => ?_)
  exact qe_r (by assumption)
  refine qe_b (qe_109 (by assumption)) (fun _ _ _ => ?_)
  exact qe_r (by assumption)
theorem qe_111 {n : Nat} {F : wq_F} {a0 : Nat} (h : pq2 v F) : qe v (dk_111 n F a0) := by
  unfold dk_111
  refine qe_i ?_ ?_
  refine qe_i ?_ ?_
  exact qe_r (by assumption)
  refine qe_b (qe_77 (by assumption)) (fun _ _ _ => ?_)
  exact qe_r (by assumption)
  refine qe_i ?_ ?_
  exact qe_r (by assumption)
  refine qe_b (qe_77 (by assumption)) (fun _ _ _ => ?_)
  exact qe_r (by assumption)
theorem qe_163 {F : wq_F} {a0 : Nat} (h : pq2 v F) : qe v (dk_163 F a0) := by
  unfold dk_163
  refine qe_g ?_
  refine qe_l (fun _ => ?_)
  refine qe_g ?_
  refine qe_u (by omega) (by assumption) (fun _ _ => ?_)
  exact qe_r (by assumption)
theorem qe_112 {F : wq_F} {a0 : Nat} {a1 : Nat} {a2 : Nat} {a3 : Nat} (h : pq2 v F) : qe v (dk_112 F a0 a1 a2 a3) := by
  unfold dk_112
  refine qe_b (qe_78 (by assumption)) (fun _ _ _ => ?_)
  refine qe_b (qe_163 (by assumption)) (fun _ _ _ => ?_)
  exact qe_r (by assumption)
theorem qe_162 {F : wq_F} {a0 : Nat} (h : pq2 v F) : qe v (dk_162 F a0) := by
  unfold dk_162
  refine qe_g ?_
  refine qe_u (by omega) (by assumption) (fun _ _ => ?_)
  exact qe_r (by assumption)
theorem qe_113 {F : wq_F} {a0 : Nat} (h : pq2 v F) : qe v (dk_113 F a0) := by
  unfold dk_113
  refine qe_b (qe_78 (by assumption)) (fun _ _ _ => ?_)
  refine qe_b (qe_162 (by assumption)) (fun _ _ _ => ?_)
  exact qe_r (by assumption)
theorem qe_146 {F : wq_F} (h : pq2 v F) : qe v (dk_146 F) := by
  unfold dk_146
  refine qe_l (fun _ => ?_)
  refine qe_i ?_ ?_
  exact qe_r (by assumption)
  refine qe_i ?_ ?_
  exact qe_r (by assumption)
  refine qe_i ?_ ?_
  exact qe_r (by assumption)
  refine qe_i ?_ ?_
  exact qe_r (by assumption)
  exact qe_r (by assumption)
theorem qe_114 {F : wq_F} (h : pq2 v F) : qe v (dk_114 F) := by
  unfold dk_114
  refine qe_l (fun _ => ?_)
  refine qe_i ?_ ?_
  exact qe_r (by assumption)
  refine qe_i ?_ ?_
  exact qe_r (by assumption)
  refine qe_i ?_ ?_
  exact qe_r (by assumption)
  refine qe_i ?_ ?_
  exact qe_r (by assumption)
  refine qe_i ?_ ?_
  exact qe_r (by assumption)
  refine qe_i ?_ ?_
  exact qe_r (by assumption)
  refine qe_i ?_ ?_
  exact qe_r (by assumption)
  refine qe_i ?_ ?_
  exact qe_r (by assumption)
  refine qe_i ?_ ?_
  exact qe_r (by assumption)
  refine qe_i ?_ ?_
  exact qe_r (by assumption)
  refine qe_b (qe_146 (by assumption)) (fun _ _ _ => ?_)
  refine qe_i ?_ ?_
  exact qe_r (by assumption)
  exact qe_r (by assumption)
theorem qe_168 {F : wq_F} {a0 : Nat} (h : pq2 v F) : qe v (dk_168 F a0) := by
  unfold dk_168
  refine qe_u (by omega) (by assumption) (fun _ _ => ?_)
  exact qe_r (by assumption)
theorem qe_115 {R : dk_Rt} {n : Nat} {F : wq_F} {a0 : Nat} (hR : ∀ m as K w, pq2 w K → qe w (R m as K)) (h : pq2 v F) : qe v (dk_115 R n F a0) := by
  unfold dk_115
  refine qe_b (qe_84 (by assumption)) (fun _ _ _ => ?_)
  refine qe_b (hR _ _ _ _ (by assumption)) (fun _ _ _ => ?_)
  refine qe_b (qe_168 (by assumption)) (fun _ _ _ => ?_)
  refine qe_b (qe_84 (by assumption)) (fun _ _ _ => ?_)
  refine qe_i ?_ ?_
  exact qe_r (by assumption)
  refine qe_b (qe_113 (by assumption)) (fun _ _ _ => ?_)
  exact qe_r (by assumption)
theorem qe_164 {F : wq_F} (h : pq2 v F) : qe v (dk_164 F) := by
  unfold dk_164
  refine qe_g ?_
  exact qe_r (by assumption)
theorem qe_165 {F : wq_F} {a0 : Nat} (h : pq2 v F) : qe v (dk_165 F a0) := by
  unfold dk_165
  refine qe_g ?_
  refine qe_u (by omega) (by assumption) (fun _ _ => ?_)
  exact qe_r (by assumption)
theorem qe_118 {n : Nat} {F : wq_F} (h : pq2 v F) : qe v (dk_118 n F) := by
  unfold dk_118
  refine qe_b (qe_164 (by assumption)) (fun _ _ _ => ?_)
  refine qe_i ?_ ?_
  refine qe_b (qe_109 (by assumption)) (fun _ _ _ => ?_)
  exact qe_r (by assumption)
  refine qe_b (qe_77 (by assumption)) (fun _ _ _ => ?_)
  refine qe_b (qe_164 (by assumption)) (fun _ _ _ => ?_)
  refine qe_b (qe_78 (by assumption)) (fun _ _ _ => ?_)
  refine qe_b (qe_165 (by assumption)) (fun _ _ _ => ?_)
  exact qe_r (by assumption)
theorem qe_116 {R : dk_Rt} {n : Nat} {F : wq_F} {a0 : Nat} (hR : ∀ m as K w, pq2 w K → qe w (R m as K)) (h : pq2 v F) : qe v (dk_116 R n F a0) := by
  unfold dk_116
  refine qe_i ?_ ?_
  refine qe_b (qe_109 (by assumption)) (fun _ _ _ => ?_)
  exact qe_r (by assumption)
  refine qe_b (qe_111 (by assumption)) (fun _ _ _ => ?_)
  refine qe_i ?_ ?_
  refine qe_b (qe_78 (by assumption)) (fun _ _ _ => ?_)
  refine qe_l (fun _ => ?_)
  refine qe_i ?_ ?_
  refine qe_b (qe_118 (by assumption)) (fun _ _ _ => ?_)
  exact qe_r (by assumption)
  refine qe_i ?_ ?_
  refine qe_b (qe_77 (by assumption)) (fun _ _ _ => ?_)
  refine qe_b (hR _ _ _ _ (by assumption)) (fun _ _ _ => ?_)
  refine qe_b (qe_110 (by assumption)) (fun _ _ _ => ?_)
  exact qe_r (by assumption)
  refine qe_i ?_ ?_
  refine qe_b (hR _ _ _ _ (by assumption)) (fun _ _ _ => ?_)
  exact qe_r (by assumption)
  refine qe_i ?_ ?_
  refine qe_b (hR _ _ _ _ (by assumption)) (fun _ _ _ => ?_)
  exact qe_r (by assumption)
  refine qe_i ?_ ?_
  refine qe_b (hR _ _ _ _ (by assumption)) (fun _ _ _ => ?_)
  exact qe_r (by assumption)
  refine qe_i ?_ ?_
  refine qe_b (hR _ _ _ _ (by assumption)) (fun _ _ _ => ?_)
  exact qe_r (by assumption)
  refine qe_i ?_ ?_
  refine qe_b (hR _ _ _ _ (by assumption)) (fun _ _ _ => ?_)
  exact qe_r (by assumption)
  refine qe_i ?_ ?_
  refine qe_b (hR _ _ _ _ (by assumption)) (fun _ _ _ => ?_)
  exact qe_r (by assumption)
  refine qe_i ?_ ?_
  refine qe_b (hR _ _ _ _ (by assumption)) (fun _ _ _ => ?_)
  exact qe_r (by assumption)
  refine qe_i ?_ ?_
  refine qe_b (hR _ _ _ _ (by assumption)) (fun _ _ _ => ?_)
  exact qe_r (by assumption)
  refine qe_i ?_ ?_
  refine qe_b (hR _ _ _ _ (by assumption)) (fun _ _ _ => ?_)
  exact qe_r (by assumption)
  refine qe_i ?_ ?_
  refine qe_b (hR _ _ _ _ (by assumption)) (fun _ _ _ => ?_)
  exact qe_r (by assumption)
  refine qe_i ?_ ?_
  refine qe_b (hR _ _ _ _ (by assumption)) (fun _ _ _ => ?_)
  exact qe_r (by assumption)
  refine qe_i ?_ ?_
  refine qe_b (hR _ _ _ _ (by assumption)) (fun _ _ _ => ?_)
  exact qe_r (by assumption)
  refine qe_i ?_ ?_
  refine qe_b (hR _ _ _ _ (by assumption)) (fun _ _ _ => ?_)
  exact qe_r (by assumption)
  refine qe_i ?_ ?_
  refine qe_b (hR _ _ _ _ (by assumption)) (fun _ _ _ => ?_)
  exact qe_r (by assumption)
  refine qe_i ?_ ?_
  refine qe_b (hR _ _ _ _ (by assumption)) (fun _ _ _ => ?_)
  exact qe_r (by assumption)
  refine qe_i ?_ ?_
  refine qe_b (hR _ _ _ _ (by assumption)) (fun _ _ _ => ?_)
  exact qe_r (by assumption)
  refine qe_i ?_ ?_
  refine qe_b (hR _ _ _ _ (by assumption)) (fun _ _ _ => ?_)
  exact qe_r (by assumption)
  refine qe_i ?_ ?_
  refine qe_b (hR _ _ _ _ (by assumption)) (fun _ _ _ => ?_)
  exact qe_r (by assumption)
  refine qe_b (hR _ _ _ _ (by assumption)) (fun _ _ _ => ?_)
  exact qe_r (by assumption)
  exact qe_r (by assumption)
theorem qe_117_42 {R : dk_Rt} {n : Nat} {F : wq_F} {v2 : Nat} {v3 : Nat} (hR : ∀ m as K w, pq2 w K → qe w (R m as K)) (h : pq2 v F) : qe v (dk_117_42 R n F v2 v3) := by
  unfold dk_117_42
  refine qe_b (qe_78 (by assumption)) (fun _ _ _ => ?_)
  refine qe_b (qe_162 (by assumption)) (fun _ _ _ => ?_)
  refine qe_b (qe_111 (by assumption)) (fun _ _ _ => ?_)
  exact qe_r (by assumption)
theorem qe_117 {R : dk_Rt} {n : Nat} {F : wq_F} {a0 : Nat} (hR : ∀ m as K w, pq2 w K → qe w (R m as K)) (h : pq2 v F) : qe v (dk_117 R n F a0) := by
  unfold dk_117
  refine qe_b (qe_84 (by assumption)) (fun _ _ _ => ?_)
  refine qe_b (qe_78 (by assumption)) (fun _ _ _ => ?_)
  refine qe_b (qe_77 (by assumption)) (fun _ _ _ => ?_)
  refine qe_b (qe_114 (by assumption)) (fun _ _ _ => ?_)
  refine qe_i ?_ ?_
  exact qe_117_42 hR (by assumption)
  refine qe_b (hR _ _ _ _ (by assumption)) (fun _ _ _ => ?_)
  exact qe_117_42 hR (by assumption)
theorem qe_159_4b {n : Nat} {r4 : wq_F → Nat → Nat → Option (Nat × wq_F)} {F : wq_F} {v2 : Nat} {v3 : Nat} (hr4 : ∀ K x0 x1, pq2 v K → qe v (r4 K x0 x1)) (h : pq2 v F) : qe v (dk_159_4b n r4 F v2 v3) := by
  unfold dk_159_4b
  refine qe_i ?_ ?_
  refine qe_i ?_ ?_
  exact qe_r (by assumption)
  refine qe_g ?_
  refine qe_g ?_
  refine qe_u (by omega) (by assumption) (fun _ _ => ?_)
  refine qe_l (fun _ => ?_)
  exact hr4 _ _ _ (by assumption)
  exact qe_r (by assumption)
theorem qe_159_4 {n : Nat} {g : Nat} {F : wq_F} {x0 : Nat} {x1 : Nat} (h : pq2 v F) : qe v (dk_159_4 n g F x0 x1) := by
  induction g generalizing F x0 x1 with
  | zero => exact qe_n
  | succ g ih =>
    exact qe_159_4b (fun K x0 x1 h => by first | exact ih h | exact ih K x0 x1 h) h
theorem qe_159 {n : Nat} {F : wq_F} {a0 : Nat} (h : pq2 v F) : qe v (dk_159 n F a0) := by
  unfold dk_159
  exact qe_159_4 (by assumption)
theorem qe_120 {n : Nat} {F : wq_F} {a0 : Nat} {a1 : Nat} (h : pq2 v F) : qe v (dk_120 n F a0 a1) := by
  unfold dk_120
  refine qe_b (qe_164 (by assumption)) (fun _ _ _ => ?_)
  refine qe_b (qe_159 (by assumption)) (fun _ _ _ => ?_)
  refine qe_b (qe_165 (by assumption)) (fun _ _ _ => ?_)
  refine qe_b (qe_113 (by assumption)) (fun _ _ _ => ?_)
  exact qe_r (by assumption)
theorem qe_119 {R : dk_Rt} {n : Nat} {F : wq_F} {a0 : Nat} (hR : ∀ m as K w, pq2 w K → qe w (R m as K)) (h : pq2 v F) : qe v (dk_119 R n F a0) := by
  unfold dk_119
  refine qe_b (qe_164 (by assumption)) (fun _ _ _ => ?_)
  refine qe_b (qe_84 (by assumption)) (fun _ _ _ => ?_)
  refine qe_b (qe_77 (by assumption)) (fun _ _ _ => ?_)
  refine qe_b (qe_78 (by assumption)) (fun _ _ _ => ?_)
  refine qe_b (hR _ _ _ _ (by assumption)) (fun _ _ _ => ?_)
  refine qe_b (qe_78 (by assumption)) (fun _ _ _ => ?_)
  refine qe_b (qe_165 (by assumption)) (fun _ _ _ => ?_)
  refine qe_b (qe_163 (by assumption)) (fun _ _ _ => ?_)
  refine qe_b (qe_110 (by assumption)) (fun _ _ _ => ?_)
  refine qe_b (hR _ _ _ _ (by assumption)) (fun _ _ _ => ?_)
  refine qe_b (qe_110 (by assumption)) (fun _ _ _ => ?_)
  refine qe_b (qe_78 (by assumption)) (fun _ _ _ => ?_)
  refine qe_b (qe_120 (by assumption)) (fun _ _ _ => ?_)
  exact qe_r (by assumption)
theorem qe_121 {R : dk_Rt} {n : Nat} {F : wq_F} {a0 : Nat} (hR : ∀ m as K w, pq2 w K → qe w (R m as K)) (h : pq2 v F) : qe v (dk_121 R n F a0) := by
  unfold dk_121
  refine qe_b (qe_164 (by assumption)) (fun _ _ _ => ?_)
  refine qe_b (qe_84 (by assumption)) (fun _ _ _ => ?_)
  refine qe_b (qe_77 (by assumption)) (fun _ _ _ => ?_)
  refine qe_b (qe_165 (by assumption)) (fun _ _ _ => ?_)
  refine qe_b (hR _ _ _ _ (by assumption)) (fun _ _ _ => ?_)
  refine qe_b (qe_110 (by assumption)) (fun _ _ _ => ?_)
  refine qe_b (qe_78 (by assumption)) (fun _ _ _ => ?_)
  refine qe_b (hR _ _ _ _ (by assumption)) (fun _ _ _ => ?_)
  refine qe_b (qe_78 (by assumption)) (fun _ _ _ => ?_)
  refine qe_b (qe_164 (by assumption)) (fun _ _ _ => ?_)
  refine qe_b (qe_78 (by assumption)) (fun _ _ _ => ?_)
  refine qe_b (qe_165 (by assumption)) (fun _ _ _ => ?_)
  refine qe_b (qe_159 (by assumption)) (fun _ _ _ => ?_)
  refine qe_b (qe_113 (by assumption)) (fun _ _ _ => ?_)
  refine qe_b (qe_78 (by assumption)) (fun _ _ _ => ?_)
  refine qe_b (qe_168 (by assumption)) (fun _ _ _ => ?_)
  refine qe_b (qe_120 (by assumption)) (fun _ _ _ => ?_)
  exact qe_r (by assumption)
theorem qe_122_112 {R : dk_Rt} {n : Nat} {F : wq_F} {v2 : Nat} {v3 : Nat} (hR : ∀ m as K w, pq2 w K → qe w (R m as K)) (h : pq2 v F) : qe v (dk_122_112 R n F v2 v3) := by
  unfold dk_122_112
  refine qe_b (qe_110 (by assumption)) (fun _ _ _ => ?_)
  refine qe_b (qe_159 (by assumption)) (fun _ _ _ => ?_)
  refine qe_b (qe_159 (by assumption)) (fun _ _ _ => ?_)
  exact qe_r (by assumption)
theorem qe_122_69 {R : dk_Rt} {n : Nat} {F : wq_F} {v1 : Nat} {v2 : Nat} {v3 : Nat} (hR : ∀ m as K w, pq2 w K → qe w (R m as K)) (h : pq2 v F) : qe v (dk_122_69 R n F v1 v2 v3) := by
  unfold dk_122_69
  refine qe_i ?_ ?_
  refine qe_b (qe_78 (by assumption)) (fun _ _ _ => ?_)
  refine qe_b (qe_159 (by assumption)) (fun _ _ _ => ?_)
  refine qe_b (qe_77 (by assumption)) (fun _ _ _ => ?_)
  refine qe_b (hR _ _ _ _ (by assumption)) (fun _ _ _ => ?_)
  exact qe_122_112 hR (by assumption)
  exact qe_122_112 hR (by assumption)
theorem qe_122_15b {R : dk_Rt} {n : Nat} {r15 : wq_F → Nat → Nat → Nat → Nat → Option (Nat × wq_F)} {F : wq_F} {v1 : Nat} {v2 : Nat} {v3 : Nat} {v4 : Nat} (hR : ∀ m as K w, pq2 w K → qe w (R m as K)) (hr15 : ∀ K x0 x1 x2 x3, pq2 v K → qe v (r15 K x0 x1 x2 x3)) (h : pq2 v F) : qe v (dk_122_15b R n r15 F v1 v2 v3 v4) := by
  unfold dk_122_15b
  refine qe_i ?_ ?_
  exact qe_122_69 hR (by assumption)
  refine qe_i ?_ ?_
  refine qe_b (qe_78 (by assumption)) (fun _ _ _ => ?_)
  refine qe_b (qe_159 (by assumption)) (fun _ _ _ => ?_)
  refine qe_b (qe_77 (by assumption)) (fun _ _ _ => ?_)
  refine qe_b (hR _ _ _ _ (by assumption)) (fun _ _ _ => ?_)
  refine qe_l (fun _ => ?_)
  exact hr15 _ _ _ _ _ (by assumption)
  exact qe_122_69 hR (by assumption)
theorem qe_122_15 {R : dk_Rt} {n : Nat} {g : Nat} {F : wq_F} {x0 : Nat} {x1 : Nat} {x2 : Nat} {x3 : Nat} (hR : ∀ m as K w, pq2 w K → qe w (R m as K)) (h : pq2 v F) : qe v (dk_122_15 R n g F x0 x1 x2 x3) := by
  induction g generalizing F x0 x1 x2 x3 with
  | zero => exact qe_n
  | succ g ih =>
    exact qe_122_15b hR (fun K x0 x1 x2 x3 h => by first | exact ih h | exact ih K x0 x1 x2 x3 h) h
theorem qe_122 {R : dk_Rt} {n : Nat} {F : wq_F} {a0 : Nat} (hR : ∀ m as K w, pq2 w K → qe w (R m as K)) (h : pq2 v F) : qe v (dk_122 R n F a0) := by
  unfold dk_122
  refine qe_b (qe_77 (by assumption)) (fun _ _ _ => ?_)
  refine qe_b (hR _ _ _ _ (by assumption)) (fun _ _ _ => ?_)
  exact qe_122_15 hR (by assumption)
theorem qe_123 {R : dk_Rt} {n : Nat} {F : wq_F} {a0 : Nat} (hR : ∀ m as K w, pq2 w K → qe w (R m as K)) (h : pq2 v F) : qe v (dk_123 R n F a0) := by
  unfold dk_123
  refine qe_b (hR _ _ _ _ (by assumption)) (fun _ _ _ => ?_)
  refine qe_b (qe_110 (by assumption)) (fun _ _ _ => ?_)
  refine qe_b (qe_78 (by assumption)) (fun _ _ _ => ?_)
  refine qe_b (qe_163 (by assumption)) (fun _ _ _ => ?_)
  refine qe_b (hR _ _ _ _ (by assumption)) (fun _ _ _ => ?_)
  exact qe_r (by assumption)
theorem qe_166 {F : wq_F} {a0 : Nat} (h : pq2 v F) : qe v (dk_166 F a0) := by
  unfold dk_166
  refine qe_g ?_
  refine qe_g ?_
  refine qe_i ?_ ?_
  refine qe_i ?_ ?_
  refine qe_g ?_
  refine qe_l (fun _ => ?_)
  refine qe_g ?_
  refine qe_u (by omega) (by assumption) (fun _ _ => ?_)
  refine qe_g ?_
  refine qe_u (by omega) (by assumption) (fun _ _ => ?_)
  refine qe_g ?_
  refine qe_u (by omega) (by assumption) (fun _ _ => ?_)
  refine qe_l (fun _ => ?_)
  refine qe_u (by omega) (by assumption) (fun _ _ => ?_)
  exact qe_r (by assumption)
  exact qe_r (by assumption)
  exact qe_r (by assumption)
theorem qe_124 {F : wq_F} (h : pq2 v F) : qe v (dk_124 F) := by
  unfold dk_124
  refine qe_i ?_ ?_
  refine qe_b (qe_166 (by assumption)) (fun _ _ _ => ?_)
  refine qe_i ?_ ?_
  refine qe_b (qe_109 (by assumption)) (fun _ _ _ => ?_)
  exact qe_r (by assumption)
  exact qe_r (by assumption)
  refine qe_b (qe_109 (by assumption)) (fun _ _ _ => ?_)
  exact qe_r (by assumption)
theorem qe_125_2b {n : Nat} {r2 : wq_F → Nat → Option (Nat × wq_F)} {F : wq_F} {v1 : Nat} (hr2 : ∀ K x0, pq2 v K → qe v (r2 K x0)) (h : pq2 v F) : qe v (dk_125_2b n r2 F v1) := by
  unfold dk_125_2b
  refine qe_i ?_ ?_
  exact qe_r (by assumption)
  refine qe_i ?_ ?_
  refine qe_b (qe_77 (by assumption)) (fun _ _ _ => ?_)
  refine qe_b (qe_124 (by assumption)) (fun _ _ _ => ?_)
  refine qe_b (qe_77 (by assumption)) (fun _ _ _ => ?_)
  refine qe_l (fun _ => ?_)
  exact hr2 _ _ (by assumption)
  exact qe_r (by assumption)
theorem qe_125_2 {n : Nat} {g : Nat} {F : wq_F} {x0 : Nat} (h : pq2 v F) : qe v (dk_125_2 n g F x0) := by
  induction g generalizing F x0 with
  | zero => exact qe_n
  | succ g ih =>
    exact qe_125_2b (fun K x0 h => by first | exact ih h | exact ih K x0 h) h
theorem qe_125 {n : Nat} {F : wq_F} (h : pq2 v F) : qe v (dk_125 n F) := by
  unfold dk_125
  exact qe_125_2 (by assumption)
theorem qe_126 {R : dk_Rt} {n : Nat} {F : wq_F} {a0 : Nat} (hR : ∀ m as K w, pq2 w K → qe w (R m as K)) (h : pq2 v F) : qe v (dk_126 R n F a0) := by
  unfold dk_126
  refine qe_b (qe_77 (by assumption)) (fun _ _ _ => ?_)
  refine qe_b (qe_124 (by assumption)) (fun _ _ _ => ?_)
  refine qe_b (qe_77 (by assumption)) (fun _ _ _ => ?_)
  refine qe_i ?_ ?_
  refine qe_b (hR _ _ _ _ (by assumption)) (fun _ _ _ => ?_)
  refine qe_b (qe_168 (by assumption)) (fun _ _ _ => ?_)
  exact qe_r (by assumption)
  refine qe_b (qe_125 (by assumption)) (fun _ _ _ => ?_)
  refine qe_b (hR _ _ _ _ (by assumption)) (fun _ _ _ => ?_)
  refine qe_b (qe_168 (by assumption)) (fun _ _ _ => ?_)
  exact qe_r (by assumption)
theorem qe_157 {F : wq_F} {a0 : Nat} (h : pq2 v F) : qe v (dk_157 F a0) := by
  unfold dk_157
  refine qe_i ?_ ?_
  refine qe_g ?_
  refine qe_u (by omega) (by assumption) (fun _ _ => ?_)
  refine qe_u (by omega) (by assumption) (fun _ _ => ?_)
  refine qe_l (fun _ => ?_)
  exact qe_r (by assumption)
  exact qe_r (by assumption)
theorem qe_167_2b {n : Nat} {r2 : wq_F → Nat → Nat → Nat → Option (Nat × wq_F)} {F : wq_F} {v1 : Nat} {v2 : Nat} {v3 : Nat} (hr2 : ∀ K x0 x1 x2, pq2 v K → qe v (r2 K x0 x1 x2)) (h : pq2 v F) : qe v (dk_167_2b n r2 F v1 v2 v3) := by
  unfold dk_167_2b
  refine qe_i ?_ ?_
  refine qe_l (fun _ => ?_)
  refine qe_g ?_
  refine qe_u (by omega) (by assumption) (fun _ _ => ?_)
  refine qe_l (fun _ => ?_)
  exact hr2 _ _ _ _ (by assumption)
  exact qe_r (by assumption)
theorem qe_167_2 {n : Nat} {g : Nat} {F : wq_F} {x0 : Nat} {x1 : Nat} {x2 : Nat} (h : pq2 v F) : qe v (dk_167_2 n g F x0 x1 x2) := by
  induction g generalizing F x0 x1 x2 with
  | zero => exact qe_n
  | succ g ih =>
    exact qe_167_2b (fun K x0 x1 x2 h => by first | exact ih h | exact ih K x0 x1 x2 h) h
theorem qe_167 {n : Nat} {F : wq_F} {a0 : Nat} {a1 : Nat} (h : pq2 v F) : qe v (dk_167 n F a0 a1) := by
  unfold dk_167
  exact qe_167_2 (by assumption)
theorem qe_127_82 {R : dk_Rt} {n : Nat} {F : wq_F} {v1 : Nat} {v2 : Nat} {v3 : Nat} {v4 : Nat} {v5 : Nat} (hR : ∀ m as K w, pq2 w K → qe w (R m as K)) (h : pq2 v F) : qe v (dk_127_82 R n F v1 v2 v3 v4 v5) := by
  unfold dk_127_82
  refine qe_b (qe_78 (by assumption)) (fun _ _ _ => ?_)
  refine qe_b (qe_78 (by assumption)) (fun _ _ _ => ?_)
  refine qe_b (qe_78 (by assumption)) (fun _ _ _ => ?_)
  refine qe_b (qe_165 (by assumption)) (fun _ _ _ => ?_)
  refine qe_b (qe_110 (by assumption)) (fun _ _ _ => ?_)
  refine qe_b (qe_162 (by assumption)) (fun _ _ _ => ?_)
  refine qe_b (qe_167 (by assumption)) (fun _ _ _ => ?_)
  refine qe_b (hR _ _ _ _ (by assumption)) (fun _ _ _ => ?_)
  refine qe_b (qe_110 (by assumption)) (fun _ _ _ => ?_)
  refine qe_b (qe_113 (by assumption)) (fun _ _ _ => ?_)
  refine qe_b (qe_78 (by assumption)) (fun _ _ _ => ?_)
  refine qe_b (qe_120 (by assumption)) (fun _ _ _ => ?_)
  exact qe_r (by assumption)
theorem qe_127 {R : dk_Rt} {n : Nat} {F : wq_F} {a0 : Nat} {a1 : Nat} {a2 : Nat} (hR : ∀ m as K w, pq2 w K → qe w (R m as K)) (h : pq2 v F) : qe v (dk_127 R n F a0 a1 a2) := by
  unfold dk_127
  refine qe_b (qe_164 (by assumption)) (fun _ _ _ => ?_)
  refine qe_b (qe_84 (by assumption)) (fun _ _ _ => ?_)
  refine qe_b (qe_77 (by assumption)) (fun _ _ _ => ?_)
  refine qe_b (hR _ _ _ _ (by assumption)) (fun _ _ _ => ?_)
  refine qe_b (qe_110 (by assumption)) (fun _ _ _ => ?_)
  refine qe_b (hR _ _ _ _ (by assumption)) (fun _ _ _ => ?_)
  refine qe_b (qe_111 (by assumption)) (fun _ _ _ => ?_)
  refine qe_i ?_ ?_
  refine qe_b (qe_157 (by assumption)) (fun _ _ _ => ?_)
  refine qe_b (qe_112 (by assumption)) (fun _ _ _ => ?_)
  exact qe_127_82 hR (by assumption)
  refine qe_b (hR _ _ _ _ (by assumption)) (fun _ _ _ => ?_)
  exact qe_127_82 hR (by assumption)
theorem qe_129_26 {F : wq_F} {v2 : Nat} {v3 : Nat} {v4 : Nat} (h : pq2 v F) : qe v (dk_129_26 F v2 v3 v4) := by
  unfold dk_129_26
  refine qe_b (qe_78 (by assumption)) (fun _ _ _ => ?_)
  refine qe_b (qe_162 (by assumption)) (fun _ _ _ => ?_)
  exact qe_r (by assumption)
theorem qe_129_12 {F : wq_F} {v1 : Nat} {v2 : Nat} {v3 : Nat} {v4 : Nat} {s0 : Nat} (h : pq2 v F) : qe v (dk_129_12 F v1 v2 v3 v4 s0) := by
  unfold dk_129_12
  refine qe_i ?_ ?_
  refine qe_i ?_ ?_
  refine qe_b (qe_162 (by assumption)) (fun _ _ _ => ?_)
  exact qe_r (by assumption)
  exact qe_129_26 (by assumption)
  exact qe_129_26 (by assumption)
theorem qe_129 {F : wq_F} {a0 : Nat} {a1 : Nat} {a2 : Nat} {a3 : Nat} (h : pq2 v F) : qe v (dk_129 F a0 a1 a2 a3) := by
  unfold dk_129
  refine qe_i ?_ ?_
  exact qe_129_12 (by assumption)
  exact qe_129_12 (by assumption)
theorem qe_128_80b {R : dk_Rt} {n : Nat} {r80 : wq_F → Nat → Nat → Nat → Nat → Nat → Nat → Nat → Nat → Option (Nat × wq_F)} {F : wq_F} {v1 : Nat} {v2 : Nat} {v3 : Nat} {v4 : Nat} {v5 : Nat} {v6 : Nat} {v7 : Nat} {v8 : Nat} (hR : ∀ m as K w, pq2 w K → qe w (R m as K)) (hr80 : ∀ K x0 x1 x2 x3 x4 x5 x6 x7, pq2 v K → qe v (r80 K x0 x1 x2 x3 x4 x5 x6 x7)) (h : pq2 v F) : qe v (dk_128_80b R n r80 F v1 v2 v3 v4 v5 v6 v7 v8) := by
  unfold dk_128_80b
  refine qe_i ?_ ?_
  refine qe_b (qe_78 (by assumption)) (fun _ _ _ => ?_)
  refine qe_l (fun _ => ?_)
  exact hr80 _ _ _ _ _ _ _ _ _ (by assumption)
  refine qe_b (qe_78 (by assumption)) (fun _ _ _ => ?_)
  refine qe_b (qe_78 (by assumption)) (fun _ _ _ => ?_)
  refine qe_b (qe_165 (by assumption)) (fun _ _ _ => ?_)
  refine qe_b (qe_110 (by assumption)) (fun _ _ _ => ?_)
  refine qe_l (fun _ => ?_)
  refine qe_b (qe_162 (by assumption)) (fun _ _ _ => ?_)
  refine qe_b (qe_167 (by assumption)) (fun _ _ _ => ?_)
  refine qe_b (hR _ _ _ _ (by assumption)) (fun _ _ _ => ?_)
  refine qe_b (qe_110 (by assumption)) (fun _ _ _ => ?_)
  refine qe_b (qe_113 (by assumption)) (fun _ _ _ => ?_)
  refine qe_b (qe_78 (by assumption)) (fun _ _ _ => ?_)
  refine qe_b (qe_120 (by assumption)) (fun _ _ _ => ?_)
  exact qe_r (by assumption)
theorem qe_128_80 {R : dk_Rt} {n : Nat} {g : Nat} {F : wq_F} {x0 : Nat} {x1 : Nat} {x2 : Nat} {x3 : Nat} {x4 : Nat} {x5 : Nat} {x6 : Nat} {x7 : Nat} (hR : ∀ m as K w, pq2 w K → qe w (R m as K)) (h : pq2 v F) : qe v (dk_128_80 R n g F x0 x1 x2 x3 x4 x5 x6 x7) := by
  induction g generalizing F x0 x1 x2 x3 x4 x5 x6 x7 with
  | zero => exact qe_n
  | succ g ih =>
    exact qe_128_80b hR (fun K x0 x1 x2 x3 x4 x5 x6 x7 h => by first | exact ih h | exact ih K x0 x1 x2 x3 x4 x5 x6 x7 h) h
theorem qe_128 {R : dk_Rt} {n : Nat} {F : wq_F} {a0 : Nat} {a1 : Nat} (hR : ∀ m as K w, pq2 w K → qe w (R m as K)) (h : pq2 v F) : qe v (dk_128 R n F a0 a1) := by
  unfold dk_128
  refine qe_b (qe_164 (by assumption)) (fun _ _ _ => ?_)
  refine qe_b (qe_84 (by assumption)) (fun _ _ _ => ?_)
  refine qe_l (fun _ => ?_)
  refine qe_b (qe_110 (by assumption)) (fun _ _ _ => ?_)
  refine qe_b (hR _ _ _ _ (by assumption)) (fun _ _ _ => ?_)
  refine qe_b (qe_129 (by assumption)) (fun _ _ _ => ?_)
  refine qe_b (qe_78 (by assumption)) (fun _ _ _ => ?_)
  exact qe_128_80 hR (by assumption)
theorem qe_130 {R : dk_Rt} {n : Nat} {F : wq_F} {a0 : Nat} (hR : ∀ m as K w, pq2 w K → qe w (R m as K)) (h : pq2 v F) : qe v (dk_130 R n F a0) := by
  unfold dk_130
  refine qe_b (qe_84 (by assumption)) (fun _ _ _ => ?_)
  refine qe_b (qe_77 (by assumption)) (fun _ _ _ => ?_)
  refine qe_b (qe_111 (by assumption)) (fun _ _ _ => ?_)
  refine qe_i ?_ ?_
  refine qe_b (qe_124 (by assumption)) (fun _ _ _ => ?_)
  refine qe_b (qe_77 (by assumption)) (fun _ _ _ => ?_)
  refine qe_b (qe_125 (by assumption)) (fun _ _ _ => ?_)
  refine qe_l (fun _ => ?_)
  refine qe_b (qe_111 (by assumption)) (fun _ _ _ => ?_)
  refine qe_i ?_ ?_
  refine qe_b (qe_112 (by assumption)) (fun _ _ _ => ?_)
  refine qe_b (qe_167 (by assumption)) (fun _ _ _ => ?_)
  exact qe_r (by assumption)
  refine qe_b (hR _ _ _ _ (by assumption)) (fun _ _ _ => ?_)
  refine qe_b (qe_129 (by assumption)) (fun _ _ _ => ?_)
  refine qe_b (qe_167 (by assumption)) (fun _ _ _ => ?_)
  exact qe_r (by assumption)
  refine qe_b (qe_124 (by assumption)) (fun _ _ _ => ?_)
  refine qe_b (qe_77 (by assumption)) (fun _ _ _ => ?_)
  refine qe_b (qe_112 (by assumption)) (fun _ _ _ => ?_)
  refine qe_b (qe_167 (by assumption)) (fun _ _ _ => ?_)
  refine qe_b (hR _ _ _ _ (by assumption)) (fun _ _ _ => ?_)
  refine qe_b (qe_112 (by assumption)) (fun _ _ _ => ?_)
  exact qe_r (by assumption)
theorem qe_169_200 {n : Nat} {F : wq_F} {v3 : Nat} {v4 : Nat} {s0 : Nat} (h : pq2 v F) : qe v (dk_169_200 n F v3 v4 s0) := by
  unfold dk_169_200
  refine qe_u (by omega) (by assumption) (fun _ _ => ?_)
  refine qe_i ?_ ?_
  refine qe_u (by omega) (by assumption) (fun _ _ => ?_)
  exact qe_r (by assumption)
  refine qe_u (by omega) (by assumption) (fun _ _ => ?_)
  exact qe_r (by assumption)
theorem qe_169_148 {n : Nat} {r82 : wq_F → Nat → Nat → Nat → Nat → Option (Nat × wq_F)} {F : wq_F} {v1 : Nat} {v5 : Nat} {v6 : Nat} {v7 : Nat} {s0 : Nat} {s1 : Nat} (hr82 : ∀ K x0 x1 x2 x3, pq2 v K → qe v (r82 K x0 x1 x2 x3)) (h : pq2 v F) : qe v (dk_169_148 n r82 F v1 v5 v6 v7 s0 s1) := by
  unfold dk_169_148
  refine qe_g ?_
  refine qe_u (by omega) (by assumption) (fun _ _ => ?_)
  refine qe_l (fun _ => ?_)
  refine qe_g ?_
  refine qe_u (by omega) (by assumption) (fun _ _ => ?_)
  refine qe_g ?_
  refine qe_l (fun _ => ?_)
  refine qe_g ?_
  refine qe_u (by omega) (by assumption) (fun _ _ => ?_)
  refine qe_l (fun _ => ?_)
  exact hr82 _ _ _ _ _ (by assumption)
theorem qe_169_82b {n : Nat} {r82 : wq_F → Nat → Nat → Nat → Nat → Option (Nat × wq_F)} {F : wq_F} {v1 : Nat} {v3 : Nat} {v4 : Nat} {v5 : Nat} (hr82 : ∀ K x0 x1 x2 x3, pq2 v K → qe v (r82 K x0 x1 x2 x3)) (h : pq2 v F) : qe v (dk_169_82b n r82 F v1 v3 v4 v5) := by
  unfold dk_169_82b
  refine qe_i ?_ ?_
  refine qe_i ?_ ?_
  exact qe_169_200 (by assumption)
  exact qe_169_200 (by assumption)
  refine qe_g ?_
  refine qe_g ?_
  refine qe_i ?_ ?_
  refine qe_l (fun _ => ?_)
  refine qe_i ?_ ?_
  exact qe_169_148 hr82 (by assumption)
  exact qe_169_148 hr82 (by assumption)
  exact qe_r (by assumption)
theorem qe_169_82 {n : Nat} {g : Nat} {F : wq_F} {x0 : Nat} {x1 : Nat} {x2 : Nat} {x3 : Nat} (h : pq2 v F) : qe v (dk_169_82 n g F x0 x1 x2 x3) := by
  induction g generalizing F x0 x1 x2 x3 with
  | zero => exact qe_n
  | succ g ih =>
    exact qe_169_82b (fun K x0 x1 x2 x3 h => by first | exact ih h | exact ih K x0 x1 x2 x3 h) h
theorem qe_169_60 {n : Nat} {F : wq_F} {v1 : Nat} {v2 : Nat} {v3 : Nat} {v4 : Nat} (h : pq2 v F) : qe v (dk_169_60 n F v1 v2 v3 v4) := by
  unfold dk_169_60
  refine qe_i ?_ ?_
  refine qe_u (by omega) (by assumption) (fun _ _ => ?_)
  refine qe_u (by omega) (by assumption) (fun _ _ => ?_)
  exact qe_r (by assumption)
  exact qe_169_82 (by assumption)
theorem qe_170_29b {n : Nat} {r29 : wq_F → Nat → Nat → Nat → Option (Nat × wq_F)} {F : wq_F} {v1 : Nat} {v2 : Nat} {v4 : Nat} (hr29 : ∀ K x0 x1 x2, pq2 v K → qe v (r29 K x0 x1 x2)) (h : pq2 v F) : qe v (dk_170_29b n r29 F v1 v2 v4) := by
  unfold dk_170_29b
  refine qe_g ?_
  refine qe_i ?_ ?_
  exact qe_r (by assumption)
  refine qe_g ?_
  refine qe_i ?_ ?_
  refine qe_g ?_
  refine qe_i ?_ ?_
  refine qe_l (fun _ => ?_)
  exact hr29 _ _ _ _ (by assumption)
  refine qe_g ?_
  exact qe_r (by assumption)
  refine qe_l (fun _ => ?_)
  exact hr29 _ _ _ _ (by assumption)
theorem qe_170_29 {n : Nat} {g : Nat} {F : wq_F} {x0 : Nat} {x1 : Nat} {x2 : Nat} (h : pq2 v F) : qe v (dk_170_29 n g F x0 x1 x2) := by
  induction g generalizing F x0 x1 x2 with
  | zero => exact qe_n
  | succ g ih =>
    exact qe_170_29b (fun K x0 x1 x2 h => by first | exact ih h | exact ih K x0 x1 x2 h) h
theorem qe_170 {n : Nat} {F : wq_F} {a0 : Nat} {a1 : Nat} (h : pq2 v F) : qe v (dk_170 n F a0 a1) := by
  unfold dk_170
  refine qe_i ?_ ?_
  refine qe_l (fun _ => ?_)
  exact qe_170_29 (by assumption)
  refine qe_g ?_
  refine qe_l (fun _ => ?_)
  exact qe_170_29 (by assumption)
theorem qe_171_2b {n : Nat} {r2 : wq_F → Nat → Nat → Nat → Option (Nat × wq_F)} {F : wq_F} {v1 : Nat} {v2 : Nat} {v3 : Nat} (hr2 : ∀ K x0 x1 x2, pq2 v K → qe v (r2 K x0 x1 x2)) (h : pq2 v F) : qe v (dk_171_2b n r2 F v1 v2 v3) := by
  unfold dk_171_2b
  refine qe_g ?_
  refine qe_i ?_ ?_
  refine qe_l (fun _ => ?_)
  refine qe_g ?_
  refine qe_i ?_ ?_
  exact qe_r (by assumption)
  refine qe_l (fun _ => ?_)
  exact hr2 _ _ _ _ (by assumption)
  exact qe_r (by assumption)
theorem qe_171_2 {n : Nat} {g : Nat} {F : wq_F} {x0 : Nat} {x1 : Nat} {x2 : Nat} (h : pq2 v F) : qe v (dk_171_2 n g F x0 x1 x2) := by
  induction g generalizing F x0 x1 x2 with
  | zero => exact qe_n
  | succ g ih =>
    exact qe_171_2b (fun K x0 x1 x2 h => by first | exact ih h | exact ih K x0 x1 x2 h) h
theorem qe_171 {n : Nat} {F : wq_F} {a0 : Nat} {a1 : Nat} (h : pq2 v F) : qe v (dk_171 n F a0 a1) := by
  unfold dk_171
  exact qe_171_2 (by assumption)
theorem qe_169_40 {n : Nat} {r10 : wq_F → Nat → Nat → Nat → Nat → Option (Nat × wq_F)} {F : wq_F} {v1 : Nat} {v2 : Nat} {v3 : Nat} {s0 : Nat} (hr10 : ∀ K x0 x1 x2 x3, pq2 v K → qe v (r10 K x0 x1 x2 x3)) (h : pq2 v F) : qe v (dk_169_40 n r10 F v1 v2 v3 s0) := by
  unfold dk_169_40
  refine qe_i ?_ ?_
  refine qe_i ?_ ?_
  refine qe_l (fun _ => ?_)
  exact hr10 _ _ _ _ _ (by assumption)
  exact qe_169_60 (by assumption)
  exact qe_169_60 (by assumption)
theorem qe_169_10b {n : Nat} {r10 : wq_F → Nat → Nat → Nat → Nat → Option (Nat × wq_F)} {F : wq_F} {v1 : Nat} {v2 : Nat} {v3 : Nat} {v4 : Nat} (hr10 : ∀ K x0 x1 x2 x3, pq2 v K → qe v (r10 K x0 x1 x2 x3)) (h : pq2 v F) : qe v (dk_169_10b n r10 F v1 v2 v3 v4) := by
  unfold dk_169_10b
  refine qe_i ?_ ?_
  exact qe_169_60 (by assumption)
  refine qe_b (qe_170 (by assumption)) (fun _ _ _ => ?_)
  refine qe_i ?_ ?_
  refine qe_g ?_
  refine qe_b (qe_171 (by assumption)) (fun _ _ _ => ?_)
  exact qe_169_40 hr10 (by assumption)
  exact qe_169_40 hr10 (by assumption)
theorem qe_169_10 {n : Nat} {g : Nat} {F : wq_F} {x0 : Nat} {x1 : Nat} {x2 : Nat} {x3 : Nat} (h : pq2 v F) : qe v (dk_169_10 n g F x0 x1 x2 x3) := by
  induction g generalizing F x0 x1 x2 x3 with
  | zero => exact qe_n
  | succ g ih =>
    exact qe_169_10b (fun K x0 x1 x2 x3 h => by first | exact ih h | exact ih K x0 x1 x2 x3 h) h
theorem qe_169 {n : Nat} {F : wq_F} {a0 : Nat} (h : pq2 v F) : qe v (dk_169 n F a0) := by
  unfold dk_169
  exact qe_169_10 (by assumption)
theorem qe_133 {n : Nat} {F : wq_F} (h : pq2 v F) : qe v (dk_133 n F) := by
  unfold dk_133
  refine qe_i ?_ ?_
  refine qe_b (qe_169 (by assumption)) (fun _ _ _ => ?_)
  refine qe_i ?_ ?_
  refine qe_b (qe_109 (by assumption)) (fun _ _ _ => ?_)
  exact qe_r (by assumption)
  refine qe_u (by omega) (by assumption) (fun _ _ => ?_)
  refine qe_u (by omega) (by assumption) (fun _ _ => ?_)
  refine qe_b (qe_77 (by assumption)) (fun _ _ _ => ?_)
  exact qe_r (by assumption)
  refine qe_b (qe_109 (by assumption)) (fun _ _ _ => ?_)
  exact qe_r (by assumption)
theorem qe_143 {F : wq_F} {a0 : Nat} {a1 : Nat} {a2 : Nat} (h : pq2 v F) : qe v (dk_143 F a0 a1 a2) := by
  unfold dk_143
  refine qe_i ?_ ?_
  refine qe_b (qe_112 (by assumption)) (fun _ _ _ => ?_)
  exact qe_r (by assumption)
  refine qe_b (qe_112 (by assumption)) (fun _ _ _ => ?_)
  exact qe_r (by assumption)
theorem qe_132 {F : wq_F} {a0 : Nat} (h : pq2 v F) : qe v (dk_132 F a0) := by
  unfold dk_132
  refine qe_b (qe_84 (by assumption)) (fun _ _ _ => ?_)
  refine qe_i ?_ ?_
  exact qe_r (by assumption)
  refine qe_b (qe_113 (by assumption)) (fun _ _ _ => ?_)
  exact qe_r (by assumption)
theorem qe_131_73 {R : dk_Rt} {n : Nat} {F : wq_F} {v1 : Nat} {v2 : Nat} {v3 : Nat} (hR : ∀ m as K w, pq2 w K → qe w (R m as K)) (h : pq2 v F) : qe v (dk_131_73 R n F v1 v2 v3) := by
  unfold dk_131_73
  refine qe_b (hR _ _ _ _ (by assumption)) (fun _ _ _ => ?_)
  refine qe_b (qe_143 (by assumption)) (fun _ _ _ => ?_)
  refine qe_b (qe_132 (by assumption)) (fun _ _ _ => ?_)
  exact qe_r (by assumption)
theorem qe_136 {F : wq_F} (h : pq2 v F) : qe v (dk_136 F) := by
  unfold dk_136
  refine qe_i ?_ ?_
  refine qe_b (qe_112 (by assumption)) (fun _ _ _ => ?_)
  refine qe_u (by omega) (by assumption) (fun _ _ => ?_)
  exact qe_r (by assumption)
  refine qe_i ?_ ?_
  refine qe_u (by omega) (by assumption) (fun _ _ => ?_)
  exact qe_r (by assumption)
  refine qe_b (qe_112 (by assumption)) (fun _ _ _ => ?_)
  refine qe_u (by omega) (by assumption) (fun _ _ => ?_)
  exact qe_r (by assumption)
theorem qe_135 {F : wq_F} (h : pq2 v F) : qe v (dk_135 F) := by
  unfold dk_135
  refine qe_i ?_ ?_
  refine qe_b (qe_112 (by assumption)) (fun _ _ _ => ?_)
  exact qe_r (by assumption)
  refine qe_b (qe_109 (by assumption)) (fun _ _ _ => ?_)
  exact qe_r (by assumption)
theorem qe_134 {n : Nat} {F : wq_F} (h : pq2 v F) : qe v (dk_134 n F) := by
  unfold dk_134
  refine qe_b (qe_136 (by assumption)) (fun _ _ _ => ?_)
  refine qe_b (qe_77 (by assumption)) (fun _ _ _ => ?_)
  refine qe_b (qe_135 (by assumption)) (fun _ _ _ => ?_)
  refine qe_b (qe_77 (by assumption)) (fun _ _ _ => ?_)
  refine qe_u (by omega) (by assumption) (fun _ _ => ?_)
  refine qe_b (qe_84 (by assumption)) (fun _ _ _ => ?_)
  refine qe_l (fun _ => ?_)
  refine qe_u (by omega) (by assumption) (fun _ _ => ?_)
  refine qe_u (by omega) (by assumption) (fun _ _ => ?_)
  exact qe_r (by assumption)
theorem qe_131_47 {R : dk_Rt} {n : Nat} {F : wq_F} {v1 : Nat} {v2 : Nat} (hR : ∀ m as K w, pq2 w K → qe w (R m as K)) (h : pq2 v F) : qe v (dk_131_47 R n F v1 v2) := by
  unfold dk_131_47
  refine qe_i ?_ ?_
  refine qe_i ?_ ?_
  exact qe_131_73 hR (by assumption)
  refine qe_b (qe_134 (by assumption)) (fun _ _ _ => ?_)
  exact qe_131_73 hR (by assumption)
  refine qe_i ?_ ?_
  exact qe_131_73 hR (by assumption)
  refine qe_b (qe_134 (by assumption)) (fun _ _ _ => ?_)
  exact qe_131_73 hR (by assumption)
theorem qe_131_18b {R : dk_Rt} {n : Nat} {r18 : wq_F → Nat → Nat → Nat → Option (Nat × wq_F)} {F : wq_F} {v1 : Nat} {v2 : Nat} {v3 : Nat} (hR : ∀ m as K w, pq2 w K → qe w (R m as K)) (hr18 : ∀ K x0 x1 x2, pq2 v K → qe v (r18 K x0 x1 x2)) (h : pq2 v F) : qe v (dk_131_18b R n r18 F v1 v2 v3) := by
  unfold dk_131_18b
  refine qe_i ?_ ?_
  exact qe_131_47 hR (by assumption)
  refine qe_i ?_ ?_
  refine qe_b (qe_134 (by assumption)) (fun _ _ _ => ?_)
  refine qe_l (fun _ => ?_)
  exact hr18 _ _ _ _ (by assumption)
  exact qe_131_47 hR (by assumption)
theorem qe_131_18 {R : dk_Rt} {n : Nat} {g : Nat} {F : wq_F} {x0 : Nat} {x1 : Nat} {x2 : Nat} (hR : ∀ m as K w, pq2 w K → qe w (R m as K)) (h : pq2 v F) : qe v (dk_131_18 R n g F x0 x1 x2) := by
  induction g generalizing F x0 x1 x2 with
  | zero => exact qe_n
  | succ g ih =>
    exact qe_131_18b hR (fun K x0 x1 x2 h => by first | exact ih h | exact ih K x0 x1 x2 h) h
theorem qe_131 {R : dk_Rt} {n : Nat} {F : wq_F} {a0 : Nat} (hR : ∀ m as K w, pq2 w K → qe w (R m as K)) (h : pq2 v F) : qe v (dk_131 R n F a0) := by
  unfold dk_131
  refine qe_b (qe_84 (by assumption)) (fun _ _ _ => ?_)
  refine qe_b (qe_77 (by assumption)) (fun _ _ _ => ?_)
  refine qe_b (qe_133 (by assumption)) (fun _ _ _ => ?_)
  exact qe_131_18 hR (by assumption)
theorem qe_137_45b {R : dk_Rt} {n : Nat} {r45 : wq_F → Nat → Nat → Option (Nat × wq_F)} {F : wq_F} {v1 : Nat} {v2 : Nat} (hR : ∀ m as K w, pq2 w K → qe w (R m as K)) (hr45 : ∀ K x0 x1, pq2 v K → qe v (r45 K x0 x1)) (h : pq2 v F) : qe v (dk_137_45b R n r45 F v1 v2) := by
  unfold dk_137_45b
  refine qe_i ?_ ?_
  exact qe_r (by assumption)
  refine qe_b (hR _ _ _ _ (by assumption)) (fun _ _ _ => ?_)
  refine qe_i ?_ ?_
  exact qe_r (by assumption)
  refine qe_l (fun _ => ?_)
  exact hr45 _ _ _ (by assumption)
theorem qe_137_45 {R : dk_Rt} {n : Nat} {g : Nat} {F : wq_F} {x0 : Nat} {x1 : Nat} (hR : ∀ m as K w, pq2 w K → qe w (R m as K)) (h : pq2 v F) : qe v (dk_137_45 R n g F x0 x1) := by
  induction g generalizing F x0 x1 with
  | zero => exact qe_n
  | succ g ih =>
    exact qe_137_45b hR (fun K x0 x1 h => by first | exact ih h | exact ih K x0 x1 h) h
theorem qe_137 {R : dk_Rt} {n : Nat} {F : wq_F} {a0 : Nat} (hR : ∀ m as K w, pq2 w K → qe w (R m as K)) (h : pq2 v F) : qe v (dk_137 R n F a0) := by
  unfold dk_137
  refine qe_i ?_ ?_
  refine qe_b (qe_77 (by assumption)) (fun _ _ _ => ?_)
  refine qe_b (hR _ _ _ _ (by assumption)) (fun _ _ _ => ?_)
  refine qe_b (qe_110 (by assumption)) (fun _ _ _ => ?_)
  refine qe_u (by omega) (by assumption) (fun _ _ => ?_)
  exact qe_137_45 hR (by assumption)
  refine qe_b (qe_133 (by assumption)) (fun _ _ _ => ?_)
  exact qe_137_45 hR (by assumption)
theorem qe_138 {R : dk_Rt} {n : Nat} {F : wq_F} {a0 : Nat} (hR : ∀ m as K w, pq2 w K → qe w (R m as K)) (h : pq2 v F) : qe v (dk_138 R n F a0) := by
  unfold dk_138
  refine qe_l (fun _ => ?_)
  refine qe_i ?_ ?_
  refine qe_b (qe_136 (by assumption)) (fun _ _ _ => ?_)
  refine qe_b (qe_84 (by assumption)) (fun _ _ _ => ?_)
  refine qe_l (fun _ => ?_)
  refine qe_b (hR _ _ _ _ (by assumption)) (fun _ _ _ => ?_)
  exact qe_r (by assumption)
  refine qe_i ?_ ?_
  refine qe_b (qe_136 (by assumption)) (fun _ _ _ => ?_)
  refine qe_b (qe_84 (by assumption)) (fun _ _ _ => ?_)
  refine qe_l (fun _ => ?_)
  refine qe_b (hR _ _ _ _ (by assumption)) (fun _ _ _ => ?_)
  exact qe_r (by assumption)
  refine qe_i ?_ ?_
  refine qe_b (qe_136 (by assumption)) (fun _ _ _ => ?_)
  refine qe_b (qe_84 (by assumption)) (fun _ _ _ => ?_)
  refine qe_l (fun _ => ?_)
  refine qe_b (hR _ _ _ _ (by assumption)) (fun _ _ _ => ?_)
  exact qe_r (by assumption)
  refine qe_i ?_ ?_
  refine qe_b (qe_136 (by assumption)) (fun _ _ _ => ?_)
  refine qe_b (qe_77 (by assumption)) (fun _ _ _ => ?_)
  refine qe_b (hR _ _ _ _ (by assumption)) (fun _ _ _ => ?_)
  refine qe_b (qe_110 (by assumption)) (fun _ _ _ => ?_)
  refine qe_u (by omega) (by assumption) (fun _ _ => ?_)
  refine qe_b (qe_84 (by assumption)) (fun _ _ _ => ?_)
  refine qe_l (fun _ => ?_)
  refine qe_u (by omega) (by assumption) (fun _ _ => ?_)
  refine qe_u (by omega) (by assumption) (fun _ _ => ?_)
  exact qe_r (by assumption)
  refine qe_i ?_ ?_
  refine qe_b (qe_136 (by assumption)) (fun _ _ _ => ?_)
  refine qe_b (qe_77 (by assumption)) (fun _ _ _ => ?_)
  refine qe_b (qe_112 (by assumption)) (fun _ _ _ => ?_)
  refine qe_b (qe_135 (by assumption)) (fun _ _ _ => ?_)
  refine qe_b (qe_77 (by assumption)) (fun _ _ _ => ?_)
  refine qe_b (qe_112 (by assumption)) (fun _ _ _ => ?_)
  refine qe_b (qe_112 (by assumption)) (fun _ _ _ => ?_)
  refine qe_b (qe_84 (by assumption)) (fun _ _ _ => ?_)
  refine qe_l (fun _ => ?_)
  refine qe_b (hR _ _ _ _ (by assumption)) (fun _ _ _ => ?_)
  exact qe_r (by assumption)
  refine qe_i ?_ ?_
  refine qe_b (qe_134 (by assumption)) (fun _ _ _ => ?_)
  exact qe_r (by assumption)
  exact qe_r (by assumption)
theorem qe_139_93 {R : dk_Rt} {n : Nat} {F : wq_F} {v1 : Nat} {v3 : Nat} (hR : ∀ m as K w, pq2 w K → qe w (R m as K)) (h : pq2 v F) : qe v (dk_139_93 R n F v1 v3) := by
  unfold dk_139_93
  refine qe_b (qe_78 (by assumption)) (fun _ _ _ => ?_)
  refine qe_b (qe_162 (by assumption)) (fun _ _ _ => ?_)
  refine qe_u (by omega) (by assumption) (fun _ _ => ?_)
  exact qe_r (by assumption)
theorem qe_139 {R : dk_Rt} {n : Nat} {F : wq_F} {a0 : Nat} {a1 : Nat} (hR : ∀ m as K w, pq2 w K → qe w (R m as K)) (h : pq2 v F) : qe v (dk_139 R n F a0 a1) := by
  unfold dk_139
  refine qe_i ?_ ?_
  refine qe_b (qe_112 (by assumption)) (fun _ _ _ => ?_)
  refine qe_b (qe_77 (by assumption)) (fun _ _ _ => ?_)
  exact qe_139_93 hR (by assumption)
  refine qe_i ?_ ?_
  refine qe_b (hR _ _ _ _ (by assumption)) (fun _ _ _ => ?_)
  exact qe_139_93 hR (by assumption)
  refine qe_b (qe_110 (by assumption)) (fun _ _ _ => ?_)
  refine qe_i ?_ ?_
  refine qe_b (qe_110 (by assumption)) (fun _ _ _ => ?_)
  exact qe_139_93 hR (by assumption)
  refine qe_b (hR _ _ _ _ (by assumption)) (fun _ _ _ => ?_)
  refine qe_b (qe_110 (by assumption)) (fun _ _ _ => ?_)
  exact qe_139_93 hR (by assumption)
theorem qe_158 {F : wq_F} {a0 : Nat} (h : pq2 v F) : qe v (dk_158 F a0) := by
  unfold dk_158
  refine qe_i ?_ ?_
  refine qe_l (fun _ => ?_)
  refine qe_g ?_
  refine qe_u (by omega) (by assumption) (fun _ _ => ?_)
  exact qe_r (by assumption)
  exact qe_r (by assumption)
theorem qe_140 {R : dk_Rt} {n : Nat} {F : wq_F} {a0 : Nat} (hR : ∀ m as K w, pq2 w K → qe w (R m as K)) (h : pq2 v F) : qe v (dk_140 R n F a0) := by
  unfold dk_140
  refine qe_b (qe_84 (by assumption)) (fun _ _ _ => ?_)
  refine qe_b (hR _ _ _ _ (by assumption)) (fun _ _ _ => ?_)
  refine qe_i ?_ ?_
  refine qe_b (qe_158 (by assumption)) (fun _ _ _ => ?_)
  refine qe_b (qe_162 (by assumption)) (fun _ _ _ => ?_)
  exact qe_r (by assumption)
  refine qe_b (hR _ _ _ _ (by assumption)) (fun _ _ _ => ?_)
  exact qe_r (by assumption)
theorem qe_142_29 {F : wq_F} {s0 : Nat} (h : pq2 v F) : qe v (dk_142_29 F s0) := by
  unfold dk_142_29
  refine qe_i ?_ ?_
  refine qe_b (qe_109 (by assumption)) (fun _ _ _ => ?_)
  exact qe_r (by assumption)
  refine qe_i ?_ ?_
  refine qe_b (qe_109 (by assumption)) (fun _ _ _ => ?_)
  exact qe_r (by assumption)
  refine qe_i ?_ ?_
  refine qe_b (qe_109 (by assumption)) (fun _ _ _ => ?_)
  exact qe_r (by assumption)
  refine qe_g ?_
  refine qe_u (by omega) (by assumption) (fun _ _ => ?_)
  refine qe_l (fun _ => ?_)
  refine qe_g ?_
  refine qe_u (by omega) (by assumption) (fun _ _ => ?_)
  refine qe_l (fun _ => ?_)
  refine qe_g ?_
  refine qe_u (by omega) (by assumption) (fun _ _ => ?_)
  refine qe_l (fun _ => ?_)
  refine qe_u (by omega) (by assumption) (fun _ _ => ?_)
  exact qe_r (by assumption)
theorem qe_142 {F : wq_F} (h : pq2 v F) : qe v (dk_142 F) := by
  unfold dk_142
  refine qe_i ?_ ?_
  exact qe_142_29 (by assumption)
  refine qe_i ?_ ?_
  exact qe_142_29 (by assumption)
  exact qe_142_29 (by assumption)
theorem qe_141_155b {R : dk_Rt} {n : Nat} {r155 : wq_F → Nat → Nat → Nat → Option (Nat × wq_F)} {F : wq_F} {v2 : Nat} {v3 : Nat} {v7 : Nat} (hR : ∀ m as K w, pq2 w K → qe w (R m as K)) (hr155 : ∀ K x0 x1 x2, pq2 v K → qe v (r155 K x0 x1 x2)) (h : pq2 v F) : qe v (dk_141_155b R n r155 F v2 v3 v7) := by
  unfold dk_141_155b
  refine qe_i ?_ ?_
  refine qe_u (by omega) (by assumption) (fun _ _ => ?_)
  refine qe_b (qe_132 (by assumption)) (fun _ _ _ => ?_)
  exact qe_r (by assumption)
  refine qe_g ?_
  refine qe_g ?_
  refine qe_g ?_
  refine qe_b (qe_143 (by assumption)) (fun _ _ _ => ?_)
  refine qe_l (fun _ => ?_)
  exact hr155 _ _ _ _ (by assumption)
theorem qe_141_155 {R : dk_Rt} {n : Nat} {g : Nat} {F : wq_F} {x0 : Nat} {x1 : Nat} {x2 : Nat} (hR : ∀ m as K w, pq2 w K → qe w (R m as K)) (h : pq2 v F) : qe v (dk_141_155 R n g F x0 x1 x2) := by
  induction g generalizing F x0 x1 x2 with
  | zero => exact qe_n
  | succ g ih =>
    exact qe_141_155b hR (fun K x0 x1 x2 h => by first | exact ih h | exact ih K x0 x1 x2 h) h
theorem qe_141_96 {R : dk_Rt} {n : Nat} {F : wq_F} {v1 : Nat} {v2 : Nat} {v3 : Nat} (hR : ∀ m as K w, pq2 w K → qe w (R m as K)) (h : pq2 v F) : qe v (dk_141_96 R n F v1 v2 v3) := by
  unfold dk_141_96
  refine qe_l (fun _ => ?_)
  refine qe_b (qe_84 (by assumption)) (fun _ _ _ => ?_)
  refine qe_b (qe_110 (by assumption)) (fun _ _ _ => ?_)
  refine qe_b (hR _ _ _ _ (by assumption)) (fun _ _ _ => ?_)
  refine qe_b (qe_129 (by assumption)) (fun _ _ _ => ?_)
  refine qe_l (fun _ => ?_)
  exact qe_141_155 hR (by assumption)
theorem qe_141_66 {R : dk_Rt} {n : Nat} {r12 : wq_F → Nat → Nat → Nat → Nat → Option (Nat × wq_F)} {F : wq_F} {v1 : Nat} {v2 : Nat} {v3 : Nat} {v4 : Nat} (hR : ∀ m as K w, pq2 w K → qe w (R m as K)) (hr12 : ∀ K x0 x1 x2 x3, pq2 v K → qe v (r12 K x0 x1 x2 x3)) (h : pq2 v F) : qe v (dk_141_66 R n r12 F v1 v2 v3 v4) := by
  unfold dk_141_66
  refine qe_i ?_ ?_
  refine qe_b (qe_109 (by assumption)) (fun _ _ _ => ?_)
  refine qe_l (fun _ => ?_)
  exact hr12 _ _ _ _ _ (by assumption)
  refine qe_b (hR _ _ _ _ (by assumption)) (fun _ _ _ => ?_)
  refine qe_b (qe_142 (by assumption)) (fun _ _ _ => ?_)
  refine qe_l (fun _ => ?_)
  exact hr12 _ _ _ _ _ (by assumption)
theorem qe_141_12b {R : dk_Rt} {n : Nat} {r12 : wq_F → Nat → Nat → Nat → Nat → Option (Nat × wq_F)} {F : wq_F} {v1 : Nat} {v2 : Nat} {v3 : Nat} {v4 : Nat} (hR : ∀ m as K w, pq2 w K → qe w (R m as K)) (hr12 : ∀ K x0 x1 x2 x3, pq2 v K → qe v (r12 K x0 x1 x2 x3)) (h : pq2 v F) : qe v (dk_141_12b R n r12 F v1 v2 v3 v4) := by
  unfold dk_141_12b
  refine qe_i ?_ ?_
  exact qe_141_96 hR (by assumption)
  refine qe_i ?_ ?_
  refine qe_b (qe_77 (by assumption)) (fun _ _ _ => ?_)
  refine qe_i ?_ ?_
  exact qe_141_66 hR hr12 (by assumption)
  refine qe_i ?_ ?_
  exact qe_141_66 hR hr12 (by assumption)
  refine qe_b (qe_109 (by assumption)) (fun _ _ _ => ?_)
  refine qe_l (fun _ => ?_)
  exact hr12 _ _ _ _ _ (by assumption)
  exact qe_141_96 hR (by assumption)
theorem qe_141_12 {R : dk_Rt} {n : Nat} {g : Nat} {F : wq_F} {x0 : Nat} {x1 : Nat} {x2 : Nat} {x3 : Nat} (hR : ∀ m as K w, pq2 w K → qe w (R m as K)) (h : pq2 v F) : qe v (dk_141_12 R n g F x0 x1 x2 x3) := by
  induction g generalizing F x0 x1 x2 x3 with
  | zero => exact qe_n
  | succ g ih =>
    exact qe_141_12b hR (fun K x0 x1 x2 x3 h => by first | exact ih h | exact ih K x0 x1 x2 x3 h) h
theorem qe_141 {R : dk_Rt} {n : Nat} {F : wq_F} {a0 : Nat} {a1 : Nat} (hR : ∀ m as K w, pq2 w K → qe w (R m as K)) (h : pq2 v F) : qe v (dk_141 R n F a0 a1) := by
  unfold dk_141
  refine qe_b (qe_142 (by assumption)) (fun _ _ _ => ?_)
  exact qe_141_12 hR (by assumption)
theorem qe_144_70 {R : dk_Rt} {n : Nat} {F : wq_F} {v2 : Nat} {v3 : Nat} (hR : ∀ m as K w, pq2 w K → qe w (R m as K)) (h : pq2 v F) : qe v (dk_144_70 R n F v2 v3) := by
  unfold dk_144_70
  refine qe_i ?_ ?_
  exact qe_r (by assumption)
  refine qe_l (fun _ => ?_)
  exact qe_r (by assumption)
theorem qe_144_30 {R : dk_Rt} {n : Nat} {r4 : wq_F → Nat → Nat → Option (Nat × wq_F)} {F : wq_F} {v1 : Nat} {v3 : Nat} (hR : ∀ m as K w, pq2 w K → qe w (R m as K)) (hr4 : ∀ K x0 x1, pq2 v K → qe v (r4 K x0 x1)) (h : pq2 v F) : qe v (dk_144_30 R n r4 F v1 v3) := by
  unfold dk_144_30
  refine qe_b (hR _ _ _ _ (by assumption)) (fun _ _ _ => ?_)
  refine qe_l (fun _ => ?_)
  refine qe_i ?_ ?_
  refine qe_i ?_ ?_
  exact qe_144_70 hR (by assumption)
  refine qe_b (qe_158 (by assumption)) (fun _ _ _ => ?_)
  exact qe_144_70 hR (by assumption)
  refine qe_i ?_ ?_
  exact hr4 _ _ _ (by assumption)
  refine qe_i ?_ ?_
  exact qe_144_70 hR (by assumption)
  refine qe_b (qe_158 (by assumption)) (fun _ _ _ => ?_)
  exact qe_144_70 hR (by assumption)
theorem qe_144_12 {R : dk_Rt} {n : Nat} {r4 : wq_F → Nat → Nat → Option (Nat × wq_F)} {F : wq_F} {v1 : Nat} {v3 : Nat} (hR : ∀ m as K w, pq2 w K → qe w (R m as K)) (hr4 : ∀ K x0 x1, pq2 v K → qe v (r4 K x0 x1)) (h : pq2 v F) : qe v (dk_144_12 R n r4 F v1 v3) := by
  unfold dk_144_12
  refine qe_i ?_ ?_
  refine qe_b (qe_114 (by assumption)) (fun _ _ _ => ?_)
  refine qe_i ?_ ?_
  exact qe_144_30 hR hr4 (by assumption)
  refine qe_b (qe_109 (by assumption)) (fun _ _ _ => ?_)
  exact qe_144_30 hR hr4 (by assumption)
  exact qe_144_30 hR hr4 (by assumption)
theorem qe_144_4b {R : dk_Rt} {n : Nat} {r4 : wq_F → Nat → Nat → Option (Nat × wq_F)} {F : wq_F} {v1 : Nat} {v3 : Nat} (hR : ∀ m as K w, pq2 w K → qe w (R m as K)) (hr4 : ∀ K x0 x1, pq2 v K → qe v (r4 K x0 x1)) (h : pq2 v F) : qe v (dk_144_4b R n r4 F v1 v3) := by
  unfold dk_144_4b
  refine qe_i ?_ ?_
  refine qe_b (qe_77 (by assumption)) (fun _ _ _ => ?_)
  exact qe_144_12 hR hr4 (by assumption)
  exact qe_144_12 hR hr4 (by assumption)
theorem qe_144_4 {R : dk_Rt} {n : Nat} {g : Nat} {F : wq_F} {x0 : Nat} {x1 : Nat} (hR : ∀ m as K w, pq2 w K → qe w (R m as K)) (h : pq2 v F) : qe v (dk_144_4 R n g F x0 x1) := by
  induction g generalizing F x0 x1 with
  | zero => exact qe_n
  | succ g ih =>
    exact qe_144_4b hR (fun K x0 x1 h => by first | exact ih h | exact ih K x0 x1 h) h
theorem qe_144 {R : dk_Rt} {n : Nat} {F : wq_F} {a0 : Nat} (hR : ∀ m as K w, pq2 w K → qe w (R m as K)) (h : pq2 v F) : qe v (dk_144 R n F a0) := by
  unfold dk_144
  exact qe_144_4 hR (by assumption)
theorem qe_145 {F : wq_F} (h : pq2 v F) : qe v (dk_145 F) := by
  unfold dk_145
  refine qe_l (fun _ => ?_)
  refine qe_i ?_ ?_
  exact qe_r (by assumption)
  refine qe_i ?_ ?_
  exact qe_r (by assumption)
  refine qe_i ?_ ?_
  exact qe_r (by assumption)
  refine qe_i ?_ ?_
  exact qe_r (by assumption)
  refine qe_i ?_ ?_
  exact qe_r (by assumption)
  refine qe_i ?_ ?_
  exact qe_r (by assumption)
  refine qe_i ?_ ?_
  exact qe_r (by assumption)
  refine qe_i ?_ ?_
  exact qe_r (by assumption)
  refine qe_i ?_ ?_
  exact qe_r (by assumption)
  refine qe_i ?_ ?_
  exact qe_r (by assumption)
  refine qe_i ?_ ?_
  exact qe_r (by assumption)
  refine qe_i ?_ ?_
  exact qe_r (by assumption)
  refine qe_i ?_ ?_
  exact qe_r (by assumption)
  refine qe_i ?_ ?_
  exact qe_r (by assumption)
  refine qe_i ?_ ?_
  exact qe_r (by assumption)
  refine qe_i ?_ ?_
  exact qe_r (by assumption)
  refine qe_i ?_ ?_
  exact qe_r (by assumption)
  refine qe_i ?_ ?_
  exact qe_r (by assumption)
  refine qe_i ?_ ?_
  exact qe_r (by assumption)
  refine qe_i ?_ ?_
  exact qe_r (by assumption)
  refine qe_i ?_ ?_
  exact qe_r (by assumption)
  refine qe_i ?_ ?_
  exact qe_r (by assumption)
  refine qe_i ?_ ?_
  exact qe_r (by assumption)
  refine qe_i ?_ ?_
  exact qe_r (by assumption)
  refine qe_i ?_ ?_
  exact qe_r (by assumption)
  refine qe_i ?_ ?_
  exact qe_r (by assumption)
  refine qe_i ?_ ?_
  exact qe_r (by assumption)
  refine qe_i ?_ ?_
  exact qe_r (by assumption)
  refine qe_i ?_ ?_
  exact qe_r (by assumption)
  refine qe_i ?_ ?_
  exact qe_r (by assumption)
  refine qe_i ?_ ?_
  exact qe_r (by assumption)
  refine qe_i ?_ ?_
  exact qe_r (by assumption)
  refine qe_i ?_ ?_
  exact qe_r (by assumption)
  refine qe_i ?_ ?_
  exact qe_r (by assumption)
  refine qe_i ?_ ?_
  exact qe_r (by assumption)
  refine qe_i ?_ ?_
  exact qe_r (by assumption)
  refine qe_i ?_ ?_
  exact qe_r (by assumption)
  refine qe_i ?_ ?_
  exact qe_r (by assumption)
  refine qe_i ?_ ?_
  exact qe_r (by assumption)
  refine qe_i ?_ ?_
  exact qe_r (by assumption)
  refine qe_i ?_ ?_
  exact qe_r (by assumption)
  refine qe_i ?_ ?_
  exact qe_r (by assumption)
  refine qe_i ?_ ?_
  exact qe_r (by assumption)
  refine qe_i ?_ ?_
  exact qe_r (by assumption)
  refine qe_i ?_ ?_
  exact qe_r (by assumption)
  refine qe_i ?_ ?_
  exact qe_r (by assumption)
  refine qe_i ?_ ?_
  exact qe_r (by assumption)
  refine qe_i ?_ ?_
  exact qe_r (by assumption)
  refine qe_i ?_ ?_
  exact qe_r (by assumption)
  refine qe_i ?_ ?_
  exact qe_r (by assumption)
  refine qe_i ?_ ?_
  exact qe_r (by assumption)
  refine qe_i ?_ ?_
  exact qe_r (by assumption)
  refine qe_i ?_ ?_
  exact qe_r (by assumption)
  refine qe_i ?_ ?_
  exact qe_r (by assumption)
  refine qe_i ?_ ?_
  exact qe_r (by assumption)
  refine qe_i ?_ ?_
  exact qe_r (by assumption)
  refine qe_i ?_ ?_
  exact qe_r (by assumption)
  refine qe_i ?_ ?_
  exact qe_r (by assumption)
  refine qe_i ?_ ?_
  exact qe_r (by assumption)
  refine qe_i ?_ ?_
  exact qe_r (by assumption)
  exact qe_r (by assumption)
theorem qe_147 {F : wq_F} {a0 : Nat} (h : pq2 v F) : qe v (dk_147 F a0) := by
  unfold dk_147
  refine qe_i ?_ ?_
  exact qe_r (by assumption)
  refine qe_i ?_ ?_
  exact qe_r (by assumption)
  refine qe_i ?_ ?_
  exact qe_r (by assumption)
  refine qe_i ?_ ?_
  exact qe_r (by assumption)
  refine qe_i ?_ ?_
  exact qe_r (by assumption)
  refine qe_i ?_ ?_
  exact qe_r (by assumption)
  refine qe_i ?_ ?_
  exact qe_r (by assumption)
  refine qe_i ?_ ?_
  exact qe_r (by assumption)
  refine qe_i ?_ ?_
  exact qe_r (by assumption)
  refine qe_i ?_ ?_
  exact qe_r (by assumption)
  refine qe_i ?_ ?_
  exact qe_r (by assumption)
  refine qe_i ?_ ?_
  exact qe_r (by assumption)
  refine qe_i ?_ ?_
  exact qe_r (by assumption)
  refine qe_i ?_ ?_
  exact qe_r (by assumption)
  refine qe_i ?_ ?_
  exact qe_r (by assumption)
  refine qe_i ?_ ?_
  exact qe_r (by assumption)
  refine qe_i ?_ ?_
  exact qe_r (by assumption)
  refine qe_i ?_ ?_
  exact qe_r (by assumption)
  refine qe_i ?_ ?_
  exact qe_r (by assumption)
  refine qe_i ?_ ?_
  exact qe_r (by assumption)
  refine qe_i ?_ ?_
  exact qe_r (by assumption)
  refine qe_i ?_ ?_
  exact qe_r (by assumption)
  refine qe_i ?_ ?_
  exact qe_r (by assumption)
  refine qe_i ?_ ?_
  exact qe_r (by assumption)
  refine qe_i ?_ ?_
  exact qe_r (by assumption)
  refine qe_i ?_ ?_
  exact qe_r (by assumption)
  refine qe_i ?_ ?_
  exact qe_r (by assumption)
  refine qe_i ?_ ?_
  exact qe_r (by assumption)
  refine qe_i ?_ ?_
  exact qe_r (by assumption)
  refine qe_i ?_ ?_
  exact qe_r (by assumption)
  exact qe_r (by assumption)
theorem qe_148_86b {R : dk_Rt} {n : Nat} {r86 : wq_F → Nat → Nat → Nat → Nat → Option (Nat × wq_F)} {F : wq_F} {v1 : Nat} {v2 : Nat} {v3 : Nat} {v5 : Nat} (hR : ∀ m as K w, pq2 w K → qe w (R m as K)) (hr86 : ∀ K x0 x1 x2 x3, pq2 v K → qe v (r86 K x0 x1 x2 x3)) (h : pq2 v F) : qe v (dk_148_86b R n r86 F v1 v2 v3 v5) := by
  unfold dk_148_86b
  refine qe_i ?_ ?_
  exact qe_r (by assumption)
  refine qe_b (qe_145 (by assumption)) (fun _ _ _ => ?_)
  refine qe_i ?_ ?_
  refine qe_b (hR _ _ _ _ (by assumption)) (fun _ _ _ => ?_)
  refine qe_l (fun _ => ?_)
  exact hr86 _ _ _ _ _ (by assumption)
  exact qe_r (by assumption)
theorem qe_148_86 {R : dk_Rt} {n : Nat} {g : Nat} {F : wq_F} {x0 : Nat} {x1 : Nat} {x2 : Nat} {x3 : Nat} (hR : ∀ m as K w, pq2 w K → qe w (R m as K)) (h : pq2 v F) : qe v (dk_148_86 R n g F x0 x1 x2 x3) := by
  induction g generalizing F x0 x1 x2 x3 with
  | zero => exact qe_n
  | succ g ih =>
    exact qe_148_86b hR (fun K x0 x1 x2 x3 h => by first | exact ih h | exact ih K x0 x1 x2 x3 h) h
theorem qe_148 {R : dk_Rt} {n : Nat} {F : wq_F} {a0 : Nat} {a1 : Nat} (hR : ∀ m as K w, pq2 w K → qe w (R m as K)) (h : pq2 v F) : qe v (dk_148 R n F a0 a1) := by
  unfold dk_148
  refine qe_b (qe_114 (by assumption)) (fun _ _ _ => ?_)
  refine qe_i ?_ ?_
  refine qe_b (qe_109 (by assumption)) (fun _ _ _ => ?_)
  exact qe_r (by assumption)
  refine qe_i ?_ ?_
  refine qe_b (qe_109 (by assumption)) (fun _ _ _ => ?_)
  exact qe_r (by assumption)
  refine qe_b (qe_146 (by assumption)) (fun _ _ _ => ?_)
  refine qe_i ?_ ?_
  refine qe_b (hR _ _ _ _ (by assumption)) (fun _ _ _ => ?_)
  exact qe_148_86 hR (by assumption)
  refine qe_b (qe_77 (by assumption)) (fun _ _ _ => ?_)
  refine qe_b (hR _ _ _ _ (by assumption)) (fun _ _ _ => ?_)
  refine qe_b (qe_112 (by assumption)) (fun _ _ _ => ?_)
  exact qe_148_86 hR (by assumption)
theorem qe_149_52 {R : dk_Rt} {n : Nat} {F : wq_F} {v1 : Nat} {v3 : Nat} {v4 : Nat} {s0 : Nat} (hR : ∀ m as K w, pq2 w K → qe w (R m as K)) (h : pq2 v F) : qe v (dk_149_52 R n F v1 v3 v4 s0) := by
  unfold dk_149_52
  refine qe_b (qe_78 (by assumption)) (fun _ _ _ => ?_)
  refine qe_b (qe_163 (by assumption)) (fun _ _ _ => ?_)
  refine qe_b (hR _ _ _ _ (by assumption)) (fun _ _ _ => ?_)
  refine qe_b (qe_159 (by assumption)) (fun _ _ _ => ?_)
  exact qe_r (by assumption)
theorem qe_149_105 {R : dk_Rt} {n : Nat} {F : wq_F} {v1 : Nat} {v2 : Nat} {v3 : Nat} {v4 : Nat} {s0 : Nat} (hR : ∀ m as K w, pq2 w K → qe w (R m as K)) (h : pq2 v F) : qe v (dk_149_105 R n F v1 v2 v3 v4 s0) := by
  unfold dk_149_105
  refine qe_b (hR _ _ _ _ (by assumption)) (fun _ _ _ => ?_)
  refine qe_b (qe_147 (by assumption)) (fun _ _ _ => ?_)
  refine qe_b (qe_112 (by assumption)) (fun _ _ _ => ?_)
  refine qe_i ?_ ?_
  refine qe_b (qe_112 (by assumption)) (fun _ _ _ => ?_)
  exact qe_r (by assumption)
  refine qe_i ?_ ?_
  refine qe_b (qe_112 (by assumption)) (fun _ _ _ => ?_)
  exact qe_r (by assumption)
  exact qe_r (by assumption)
theorem qe_149 {R : dk_Rt} {n : Nat} {F : wq_F} {a0 : Nat} (hR : ∀ m as K w, pq2 w K → qe w (R m as K)) (h : pq2 v F) : qe v (dk_149 R n F a0) := by
  unfold dk_149
  refine qe_b (qe_145 (by assumption)) (fun _ _ _ => ?_)
  refine qe_b (qe_77 (by assumption)) (fun _ _ _ => ?_)
  refine qe_i ?_ ?_
  refine qe_i ?_ ?_
  exact qe_149_52 hR (by assumption)
  exact qe_149_52 hR (by assumption)
  refine qe_i ?_ ?_
  refine qe_i ?_ ?_
  exact qe_149_52 hR (by assumption)
  exact qe_149_52 hR (by assumption)
  refine qe_i ?_ ?_
  refine qe_l (fun _ => ?_)
  exact qe_149_105 hR (by assumption)
  exact qe_149_105 hR (by assumption)
theorem qe_161 {F : wq_F} (h : pq2 v F) : qe v (dk_161 F) := by
  unfold dk_161
  refine qe_g ?_
  exact qe_r (by assumption)
theorem qe_150_191 {R : dk_Rt} {n : Nat} {F : wq_F} {v2 : Nat} (hR : ∀ m as K w, pq2 w K → qe w (R m as K)) (h : pq2 v F) : qe v (dk_150_191 R n F v2) := by
  unfold dk_150_191
  refine qe_b (qe_77 (by assumption)) (fun _ _ _ => ?_)
  refine qe_b (qe_78 (by assumption)) (fun _ _ _ => ?_)
  refine qe_b (qe_163 (by assumption)) (fun _ _ _ => ?_)
  exact qe_r (by assumption)
theorem qe_150 {R : dk_Rt} {n : Nat} {F : wq_F} {a0 : Nat} (hR : ∀ m as K w, pq2 w K → qe w (R m as K)) (h : pq2 v F) : qe v (dk_150 R n F a0) := by
  unfold dk_150
  refine qe_l (fun _ => ?_)
  refine qe_i ?_ ?_
  refine qe_b (qe_157 (by assumption)) (fun _ _ _ => ?_)
  refine qe_b (qe_112 (by assumption)) (fun _ _ _ => ?_)
  refine qe_b (qe_77 (by assumption)) (fun _ _ _ => ?_)
  exact qe_r (by assumption)
  refine qe_i ?_ ?_
  refine qe_b (qe_112 (by assumption)) (fun _ _ _ => ?_)
  refine qe_b (qe_77 (by assumption)) (fun _ _ _ => ?_)
  exact qe_r (by assumption)
  refine qe_i ?_ ?_
  refine qe_i ?_ ?_
  refine qe_b (qe_112 (by assumption)) (fun _ _ _ => ?_)
  refine qe_b (qe_77 (by assumption)) (fun _ _ _ => ?_)
  exact qe_r (by assumption)
  refine qe_b (qe_112 (by assumption)) (fun _ _ _ => ?_)
  refine qe_b (qe_77 (by assumption)) (fun _ _ _ => ?_)
  exact qe_r (by assumption)
  refine qe_i ?_ ?_
  refine qe_b (qe_77 (by assumption)) (fun _ _ _ => ?_)
  refine qe_b (hR _ _ _ _ (by assumption)) (fun _ _ _ => ?_)
  exact qe_r (by assumption)
  refine qe_i ?_ ?_
  refine qe_b (qe_112 (by assumption)) (fun _ _ _ => ?_)
  refine qe_b (qe_77 (by assumption)) (fun _ _ _ => ?_)
  exact qe_r (by assumption)
  refine qe_i ?_ ?_
  refine qe_i ?_ ?_
  refine qe_b (qe_112 (by assumption)) (fun _ _ _ => ?_)
  refine qe_b (qe_77 (by assumption)) (fun _ _ _ => ?_)
  exact qe_r (by assumption)
  refine qe_b (qe_112 (by assumption)) (fun _ _ _ => ?_)
  refine qe_b (qe_77 (by assumption)) (fun _ _ _ => ?_)
  exact qe_r (by assumption)
  refine qe_i ?_ ?_
  refine qe_b (hR _ _ _ _ (by assumption)) (fun _ _ _ => ?_)
  exact qe_r (by assumption)
  refine qe_i ?_ ?_
  refine qe_b (qe_161 (by assumption)) (fun _ _ _ => ?_)
  refine qe_g ?_
  refine qe_i ?_ ?_
  refine qe_b (qe_109 (by assumption)) (fun _ _ _ => ?_)
  exact qe_150_191 hR (by assumption)
  exact qe_150_191 hR (by assumption)
  refine qe_b (hR _ _ _ _ (by assumption)) (fun _ _ _ => ?_)
  refine qe_i ?_ ?_
  refine qe_b (qe_136 (by assumption)) (fun _ _ _ => ?_)
  exact qe_r (by assumption)
  refine qe_b (qe_136 (by assumption)) (fun _ _ _ => ?_)
  exact qe_r (by assumption)
theorem qe_152 {n : Nat} {F : wq_F} (h : pq2 v F) : qe v (dk_152 n F) := by
  unfold dk_152
  refine qe_i ?_ ?_
  refine qe_b (qe_77 (by assumption)) (fun _ _ _ => ?_)
  exact qe_r (by assumption)
  refine qe_i ?_ ?_
  refine qe_b (qe_77 (by assumption)) (fun _ _ _ => ?_)
  exact qe_r (by assumption)
  refine qe_i ?_ ?_
  exact qe_r (by assumption)
  refine qe_b (qe_109 (by assumption)) (fun _ _ _ => ?_)
  exact qe_r (by assumption)
theorem qe_151_136 {R : dk_Rt} {n : Nat} {r32 : wq_F → Nat → Nat → Nat → Nat → Option (Nat × wq_F)} {F : wq_F} {v1 : Nat} {v2 : Nat} {v3 : Nat} {v4 : Nat} {s0 : Nat} (hR : ∀ m as K w, pq2 w K → qe w (R m as K)) (hr32 : ∀ K x0 x1 x2 x3, pq2 v K → qe v (r32 K x0 x1 x2 x3)) (h : pq2 v F) : qe v (dk_151_136 R n r32 F v1 v2 v3 v4 s0) := by
  unfold dk_151_136
  refine qe_i ?_ ?_
  refine qe_l (fun _ => ?_)
  refine qe_b (hR _ _ _ _ (by assumption)) (fun _ _ _ => ?_)
  refine qe_l (fun _ => ?_)
  exact hr32 _ _ _ _ _ (by assumption)
  refine qe_b (hR _ _ _ _ (by assumption)) (fun _ _ _ => ?_)
  refine qe_b (qe_152 (by assumption)) (fun _ _ _ => ?_)
  refine qe_l (fun _ => ?_)
  exact hr32 _ _ _ _ _ (by assumption)
theorem qe_185 {F : wq_F} (h : pq2 v F) : qe v (dk_185 F) := by
  unfold dk_185
  refine qe_b (qe_74 (by assumption)) (fun _ _ _ => ?_)
  refine qe_b (qe_186 (by assumption)) (fun _ _ _ => ?_)
  refine qe_i ?_ ?_
  refine qe_b (qe_186 (by assumption)) (fun _ _ _ => ?_)
  refine qe_i ?_ ?_
  exact qe_r (by assumption)
  exact qe_r (by assumption)
  exact qe_r (by assumption)
theorem qe_151_98 {R : dk_Rt} {n : Nat} {r32 : wq_F → Nat → Nat → Nat → Nat → Option (Nat × wq_F)} {F : wq_F} {v1 : Nat} {v2 : Nat} {v3 : Nat} {v4 : Nat} (hR : ∀ m as K w, pq2 w K → qe w (R m as K)) (hr32 : ∀ K x0 x1 x2 x3, pq2 v K → qe v (r32 K x0 x1 x2 x3)) (h : pq2 v F) : qe v (dk_151_98 R n r32 F v1 v2 v3 v4) := by
  unfold dk_151_98
  refine qe_i ?_ ?_
  exact qe_151_136 hR hr32 (by assumption)
  refine qe_i ?_ ?_
  refine qe_b (qe_185 (by assumption)) (fun _ _ _ => ?_)
  refine qe_i ?_ ?_
  exact qe_151_136 hR hr32 (by assumption)
  exact qe_151_136 hR hr32 (by assumption)
  exact qe_151_136 hR hr32 (by assumption)
theorem qe_151_78 {R : dk_Rt} {n : Nat} {r32 : wq_F → Nat → Nat → Nat → Nat → Option (Nat × wq_F)} {F : wq_F} {v1 : Nat} {v2 : Nat} {v3 : Nat} {v4 : Nat} (hR : ∀ m as K w, pq2 w K → qe w (R m as K)) (hr32 : ∀ K x0 x1 x2 x3, pq2 v K → qe v (r32 K x0 x1 x2 x3)) (h : pq2 v F) : qe v (dk_151_78 R n r32 F v1 v2 v3 v4) := by
  unfold dk_151_78
  refine qe_i ?_ ?_
  refine qe_b (qe_109 (by assumption)) (fun _ _ _ => ?_)
  exact qe_151_98 hR hr32 (by assumption)
  refine qe_i ?_ ?_
  refine qe_b (qe_109 (by assumption)) (fun _ _ _ => ?_)
  exact qe_151_98 hR hr32 (by assumption)
  exact qe_151_98 hR hr32 (by assumption)
theorem qe_151_32b {R : dk_Rt} {n : Nat} {r32 : wq_F → Nat → Nat → Nat → Nat → Option (Nat × wq_F)} {F : wq_F} {v1 : Nat} {v2 : Nat} {v3 : Nat} {v4 : Nat} (hR : ∀ m as K w, pq2 w K → qe w (R m as K)) (hr32 : ∀ K x0 x1 x2 x3, pq2 v K → qe v (r32 K x0 x1 x2 x3)) (h : pq2 v F) : qe v (dk_151_32b R n r32 F v1 v2 v3 v4) := by
  unfold dk_151_32b
  refine qe_i ?_ ?_
  refine qe_b (qe_110 (by assumption)) (fun _ _ _ => ?_)
  refine qe_b (qe_162 (by assumption)) (fun _ _ _ => ?_)
  exact qe_r (by assumption)
  refine qe_i ?_ ?_
  refine qe_b (qe_110 (by assumption)) (fun _ _ _ => ?_)
  refine qe_b (qe_162 (by assumption)) (fun _ _ _ => ?_)
  exact qe_r (by assumption)
  refine qe_i ?_ ?_
  exact qe_151_78 hR hr32 (by assumption)
  refine qe_b (qe_114 (by assumption)) (fun _ _ _ => ?_)
  refine qe_i ?_ ?_
  refine qe_b (qe_109 (by assumption)) (fun _ _ _ => ?_)
  exact qe_151_98 hR hr32 (by assumption)
  exact qe_151_78 hR hr32 (by assumption)
theorem qe_151_32 {R : dk_Rt} {n : Nat} {g : Nat} {F : wq_F} {x0 : Nat} {x1 : Nat} {x2 : Nat} {x3 : Nat} (hR : ∀ m as K w, pq2 w K → qe w (R m as K)) (h : pq2 v F) : qe v (dk_151_32 R n g F x0 x1 x2 x3) := by
  induction g generalizing F x0 x1 x2 x3 with
  | zero => exact qe_n
  | succ g ih =>
    exact qe_151_32b hR (fun K x0 x1 x2 x3 h => by first | exact ih h | exact ih K x0 x1 x2 x3 h) h
theorem qe_151 {R : dk_Rt} {n : Nat} {F : wq_F} {a0 : Nat} (hR : ∀ m as K w, pq2 w K → qe w (R m as K)) (h : pq2 v F) : qe v (dk_151 R n F a0) := by
  unfold dk_151
  refine qe_b (qe_84 (by assumption)) (fun _ _ _ => ?_)
  refine qe_b (qe_112 (by assumption)) (fun _ _ _ => ?_)
  refine qe_b (qe_77 (by assumption)) (fun _ _ _ => ?_)
  exact qe_151_32 hR (by assumption)
theorem qe_153_43 {R : dk_Rt} {n : Nat} {F : wq_F} {v1 : Nat} {v2 : Nat} (hR : ∀ m as K w, pq2 w K → qe w (R m as K)) (h : pq2 v F) : qe v (dk_153_43 R n F v1 v2) := by
  unfold dk_153_43
  refine qe_b (qe_110 (by assumption)) (fun _ _ _ => ?_)
  refine qe_b (hR _ _ _ _ (by assumption)) (fun _ _ _ => ?_)
  refine qe_b (qe_112 (by assumption)) (fun _ _ _ => ?_)
  exact qe_r (by assumption)
theorem qe_153 {R : dk_Rt} {n : Nat} {F : wq_F} {a0 : Nat} (hR : ∀ m as K w, pq2 w K → qe w (R m as K)) (h : pq2 v F) : qe v (dk_153 R n F a0) := by
  unfold dk_153
  refine qe_b (qe_111 (by assumption)) (fun _ _ _ => ?_)
  refine qe_i ?_ ?_
  refine qe_b (qe_135 (by assumption)) (fun _ _ _ => ?_)
  refine qe_b (qe_77 (by assumption)) (fun _ _ _ => ?_)
  exact qe_153_43 hR (by assumption)
  refine qe_b (hR _ _ _ _ (by assumption)) (fun _ _ _ => ?_)
  refine qe_b (qe_110 (by assumption)) (fun _ _ _ => ?_)
  exact qe_153_43 hR (by assumption)
theorem qe_154 {R : dk_Rt} {n : Nat} {F : wq_F} {a0 : Nat} {a1 : Nat} {a2 : Nat} (hR : ∀ m as K w, pq2 w K → qe w (R m as K)) (h : pq2 v F) : qe v (dk_154 R n F a0 a1 a2) := by
  unfold dk_154
  refine qe_b (hR _ _ _ _ (by assumption)) (fun _ _ _ => ?_)
  refine qe_b (qe_152 (by assumption)) (fun _ _ _ => ?_)
  refine qe_i ?_ ?_
  refine qe_b (qe_112 (by assumption)) (fun _ _ _ => ?_)
  exact qe_r (by assumption)
  refine qe_i ?_ ?_
  refine qe_b (qe_158 (by assumption)) (fun _ _ _ => ?_)
  refine qe_b (qe_78 (by assumption)) (fun _ _ _ => ?_)
  refine qe_b (qe_163 (by assumption)) (fun _ _ _ => ?_)
  exact qe_r (by assumption)
  refine qe_b (qe_112 (by assumption)) (fun _ _ _ => ?_)
  exact qe_r (by assumption)
theorem qe_57 {F : wq_F} {a0 : Nat} (h : pq2 v F) : qe v (dk_57 F a0) := by
  unfold dk_57
  refine qe_g ?_
  refine qe_u (by omega) (by assumption) (fun _ _ => ?_)
  refine qe_g ?_
  refine qe_u (by omega) (by assumption) (fun _ _ => ?_)
  refine qe_g ?_
  refine qe_u (by omega) (by assumption) (fun _ _ => ?_)
  refine qe_g ?_
  refine qe_u (by omega) (by assumption) (fun _ _ => ?_)
  refine qe_g ?_
  refine qe_u (by omega) (by assumption) (fun _ _ => ?_)
  refine qe_l (fun _ => ?_)
  refine qe_u (by omega) (by assumption) (fun _ _ => ?_)
  exact qe_r (by assumption)
theorem qe_156_117 {n : Nat} {F : wq_F} {v1 : Nat} {v2 : Nat} (h : pq2 v F) : qe v (dk_156_117 n F v1 v2) := by
  unfold dk_156_117
  refine qe_i ?_ ?_
  exact qe_r (by assumption)
  refine qe_g ?_
  refine qe_u (by omega) (by assumption) (fun _ _ => ?_)
  refine qe_b (qe_77 (by assumption)) (fun _ _ _ => ?_)
  exact qe_r (by assumption)
theorem qe_156_100 {n : Nat} {r38 : wq_F → Nat → Nat → Nat → Nat → Option (Nat × wq_F)} {F : wq_F} {v1 : Nat} {v4 : Nat} {s0 : Nat} (hr38 : ∀ K x0 x1 x2 x3, pq2 v K → qe v (r38 K x0 x1 x2 x3)) (h : pq2 v F) : qe v (dk_156_100 n r38 F v1 v4 s0) := by
  unfold dk_156_100
  refine qe_i ?_ ?_
  refine qe_l (fun _ => ?_)
  exact hr38 _ _ _ _ _ (by assumption)
  refine qe_l (fun _ => ?_)
  exact hr38 _ _ _ _ _ (by assumption)
theorem qe_156_74 {n : Nat} {r38 : wq_F → Nat → Nat → Nat → Nat → Option (Nat × wq_F)} {F : wq_F} {v1 : Nat} {v2 : Nat} {v4 : Nat} {s0 : Nat} (hr38 : ∀ K x0 x1 x2 x3, pq2 v K → qe v (r38 K x0 x1 x2 x3)) (h : pq2 v F) : qe v (dk_156_74 n r38 F v1 v2 v4 s0) := by
  unfold dk_156_74
  refine qe_i ?_ ?_
  refine qe_l (fun _ => ?_)
  exact hr38 _ _ _ _ _ (by assumption)
  refine qe_b (qe_77 (by assumption)) (fun _ _ _ => ?_)
  refine qe_i ?_ ?_
  exact qe_156_100 hr38 (by assumption)
  exact qe_156_100 hr38 (by assumption)
theorem qe_156_38b {n : Nat} {r38 : wq_F → Nat → Nat → Nat → Nat → Option (Nat × wq_F)} {F : wq_F} {v1 : Nat} {v2 : Nat} {v3 : Nat} {v4 : Nat} (hr38 : ∀ K x0 x1 x2 x3, pq2 v K → qe v (r38 K x0 x1 x2 x3)) (h : pq2 v F) : qe v (dk_156_38b n r38 F v1 v2 v3 v4) := by
  unfold dk_156_38b
  refine qe_i ?_ ?_
  exact qe_156_117 (by assumption)
  refine qe_i ?_ ?_
  exact qe_156_117 (by assumption)
  refine qe_b (qe_124 (by assumption)) (fun _ _ _ => ?_)
  refine qe_b (qe_77 (by assumption)) (fun _ _ _ => ?_)
  refine qe_i ?_ ?_
  exact qe_156_74 hr38 (by assumption)
  exact qe_156_74 hr38 (by assumption)
theorem qe_156_38 {n : Nat} {g : Nat} {F : wq_F} {x0 : Nat} {x1 : Nat} {x2 : Nat} {x3 : Nat} (h : pq2 v F) : qe v (dk_156_38 n g F x0 x1 x2 x3) := by
  induction g generalizing F x0 x1 x2 x3 with
  | zero => exact qe_n
  | succ g ih =>
    exact qe_156_38b (fun K x0 x1 x2 x3 h => by first | exact ih h | exact ih K x0 x1 x2 x3 h) h
theorem qe_156_17 {n : Nat} {F : wq_F} {v1 : Nat} {s0 : Nat} (h : pq2 v F) : qe v (dk_156_17 n F v1 s0) := by
  unfold dk_156_17
  refine qe_i ?_ ?_
  exact qe_156_38 (by assumption)
  exact qe_156_38 (by assumption)
theorem qe_156 {n : Nat} {F : wq_F} {a0 : Nat} (h : pq2 v F) : qe v (dk_156 n F a0) := by
  unfold dk_156
  refine qe_i ?_ ?_
  exact qe_156_17 (by assumption)
  exact qe_156_17 (by assumption)
theorem qe_160 {F : wq_F} (h : pq2 v F) : qe v (dk_160 F) := by
  unfold dk_160
  refine qe_g ?_
  refine qe_u (by omega) (by assumption) (fun _ _ => ?_)
  refine qe_l (fun _ => ?_)
  refine qe_u (by omega) (by assumption) (fun _ _ => ?_)
  exact qe_r (by assumption)
theorem qe_155_117 {R : dk_Rt} {n : Nat} {F : wq_F} {v1 : Nat} {v3 : Nat} {v4 : Nat} {v5 : Nat} (hR : ∀ m as K w, pq2 w K → qe w (R m as K)) (h : pq2 v F) : qe v (dk_155_117 R n F v1 v3 v4 v5) := by
  unfold dk_155_117
  refine qe_b (qe_77 (by assumption)) (fun _ _ _ => ?_)
  refine qe_b (qe_156 (by assumption)) (fun _ _ _ => ?_)
  refine qe_b (qe_110 (by assumption)) (fun _ _ _ => ?_)
  refine qe_b (qe_167 (by assumption)) (fun _ _ _ => ?_)
  refine qe_l (fun _ => ?_)
  refine qe_g ?_
  refine qe_u (by omega) (by assumption) (fun _ _ => ?_)
  refine qe_g ?_
  refine qe_b (qe_162 (by assumption)) (fun _ _ _ => ?_)
  refine qe_b (qe_78 (by assumption)) (fun _ _ _ => ?_)
  refine qe_b (hR _ _ _ _ (by assumption)) (fun _ _ _ => ?_)
  refine qe_b (qe_84 (by assumption)) (fun _ _ _ => ?_)
  refine qe_b (qe_78 (by assumption)) (fun _ _ _ => ?_)
  refine qe_b (qe_110 (by assumption)) (fun _ _ _ => ?_)
  refine qe_b (qe_160 (by assumption)) (fun _ _ _ => ?_)
  refine qe_b (qe_159 (by assumption)) (fun _ _ _ => ?_)
  refine qe_b (qe_163 (by assumption)) (fun _ _ _ => ?_)
  exact qe_r (by assumption)
theorem qe_155 {R : dk_Rt} {n : Nat} {F : wq_F} {a0 : Nat} {a1 : Nat} (hR : ∀ m as K w, pq2 w K → qe w (R m as K)) (h : pq2 v F) : qe v (dk_155 R n F a0 a1) := by
  unfold dk_155
  refine qe_i ?_ ?_
  refine qe_i ?_ ?_
  refine qe_b (qe_57 (by assumption)) (fun _ _ _ => ?_)
  refine qe_b (qe_78 (by assumption)) (fun _ _ _ => ?_)
  refine qe_g ?_
  refine qe_u (by omega) (by assumption) (fun _ _ => ?_)
  refine qe_b (qe_83 (by assumption)) (fun _ _ _ => ?_)
  refine qe_i ?_ ?_
  exact qe_155_117 hR (by assumption)
  refine qe_b (qe_166 (by assumption)) (fun _ _ _ => ?_)
  exact qe_155_117 hR (by assumption)
  refine qe_b (qe_109 (by assumption)) (fun _ _ _ => ?_)
  exact qe_r (by assumption)
  refine qe_b (qe_109 (by assumption)) (fun _ _ _ => ?_)
  exact qe_r (by assumption)
end
theorem qe_R {n : Nat} : ∀ (k m : Nat) (as : List Nat) (F : wq_F) (v : Nat), pq2 v F → qe v (dk_R n k m as F)
  | 0, _, _, _, _, _ => qe_n
  | k + 1, m, as, F, v, h => by
    have hR := fun m as K w (h : pq2 w K) => qe_R (n := n) k m as K w h
    show qe v (dk_Rb n (dk_R n k) m as F)
    unfold dk_Rb
    refine qe_i (qe_80 hR h) ?_
    refine qe_i (qe_115 hR h) ?_
    refine qe_i (qe_116 hR h) ?_
    refine qe_i (qe_117 hR h) ?_
    refine qe_i (qe_119 hR h) ?_
    refine qe_i (qe_121 hR h) ?_
    refine qe_i (qe_122 hR h) ?_
    refine qe_i (qe_123 hR h) ?_
    refine qe_i (qe_126 hR h) ?_
    refine qe_i (qe_127 hR h) ?_
    refine qe_i (qe_128 hR h) ?_
    refine qe_i (qe_130 hR h) ?_
    refine qe_i (qe_131 hR h) ?_
    refine qe_i (qe_137 hR h) ?_
    refine qe_i (qe_138 hR h) ?_
    refine qe_i (qe_139 hR h) ?_
    refine qe_i (qe_140 hR h) ?_
    refine qe_i (qe_141 hR h) ?_
    refine qe_i (qe_144 hR h) ?_
    refine qe_i (qe_148 hR h) ?_
    refine qe_i (qe_149 hR h) ?_
    refine qe_i (qe_150 hR h) ?_
    refine qe_i (qe_151 hR h) ?_
    refine qe_i (qe_153 hR h) ?_
    refine qe_i (qe_154 hR h) ?_
    refine qe_i (qe_155 hR h) ?_
    exact qe_n
