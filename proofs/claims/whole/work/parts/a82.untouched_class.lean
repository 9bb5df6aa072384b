/-! ===== a82: what the class's parser leaves as it was (written by wip/whole2/lawa82.py) ===== -/
/-- the cells that it doesn't touch -/
def fcx (c j : Nat) : Prop := c ≤ 1 ∨ (24 ≤ c ∧ c ≤ 55) ∨ 67 ≤ c ∨ (c = 2 ∧ ¬ (j = 6 ∨ j = 8 ∨ j = 9 ∨ j = 11 ∨ j = 15)) ∨ (c = 11 ∧ ¬ (j = 4 ∨ j = 6 ∨ j = 14)) ∨ (c = 56 ∧ (j < 4 ∨ j = 10 ∨ 12 ≤ j)) ∨ (c = 57 ∧ j < 3)
def fc (B F : wq_F) : Prop := ∀ c j, fcx c j → F c j = B c j
theorem fc_refl (B : wq_F) : fc B B := fun _ _ _ => rfl
theorem fc_u {B F : wq_F} {c i x : Nat} (hc : ¬ fcx c i) (h : fc B F) : fc B (wq_up F c i x) := fun d j q => (wq_up_ne (fun z => hc (by rw [← z.1, ← z.2]; exact q))).trans (h d j q)
/-- if it ends, they are as in B -/
def fe (B : wq_F) (m : Option (Nat × wq_F)) : Prop := ∀ x, m = some x → fc B x.2
theorem fe_n {v : wq_F} : fe v none := fun x h => nomatch h
theorem fe_r {v : wq_F} {r : Nat} {K : wq_F} (h : fc v K) : fe v (some (r, K)) := fun x e => by
  rw [← Option.some.inj e]
  exact h
theorem fe_b {v : wq_F} {m : Option (Nat × wq_F)} {f : Nat × wq_F → Option (Nat × wq_F)} (h : fe v m) (g : ∀ r K, fc v K → fe v (f (r, K))) : fe v (m.bind f) := fun x e => by
  cases m with
  | none => exact nomatch (show (none : Option (Nat × wq_F)) = some x from e)
  | some y => exact g y.1 y.2 (h y rfl) x e
theorem fe_i {v : wq_F} {c : Prop} [Decidable c] {a b : Option (Nat × wq_F)} (h1 : fe v a) (h2 : fe v b) : fe v (if c then a else b) := by
  by_cases q : c
  · rw [if_pos q]
    exact h1
  · rw [if_neg q]
    exact h2
theorem fe_g {v : wq_F} {c : Prop} [Decidable c] {k : Option (Nat × wq_F)} (h : fe v k) : fe v (od_g c k) := fe_i h fe_n
theorem fe_l {v : wq_F} {x : Nat} {k : Nat → Option (Nat × wq_F)} (h : ∀ y, fe v (k y)) : fe v (od_let x k) := h x
theorem fe_u {v F : wq_F} {c i x : Nat} {k : wq_F → Option (Nat × wq_F)} (hc : ¬ fcx c i) (h : fc v F) (g : ∀ H, fc v H → fe v (k H)) : fe v (od_up F c i x k) := g _ (fc_u hc h)
theorem fe_c {v F : wq_F} {s sp t dp n : Nat} {k : wq_F → Option (Nat × wq_F)} (hc : ∀ j, ¬ fcx t j) (h : fc v F) (g : ∀ H, fc v H → fe v (k H)) : fe v (od_cp F s sp t dp n k) := g _ (fun d j q => (if_neg (fun z => hc j (by rw [← z.1]; exact q))).trans (h d j q))
section
variable {v : wq_F}
theorem fe_74 {F : wq_F} {a0 : Nat} (h : fc v F) : fe v (dk_74 F a0) := by
  unfold dk_74
  exact fe_g (fe_r h)
theorem fe_188 {F : wq_F} {a0 : Nat} (h : fc v F) : fe v (dk_188 F a0) := by
  unfold dk_188
  exact fe_r (by assumption)
theorem fe_187 {F : wq_F} {a0 : Nat} (h : fc v F) : fe v (dk_187 F a0) := by
  unfold dk_187
  exact fe_r (by assumption)
theorem fe_73_24b {n : Nat} {r24 : wq_F → Nat → Nat → Option (Nat × wq_F)} {F : wq_F} {v1 : Nat} {v2 : Nat} (hr24 : ∀ K x0 x1, fc v K → fe v (r24 K x0 x1)) (h : fc v F) : fe v (dk_73_24b n r24 F v1 v2) := by
  unfold dk_73_24b
  refine fe_i ?_ ?_
  refine fe_g ?_
  refine fe_i ?_ ?_
  refine fe_u (by unfold fcx; omega) (by assumption) (fun _ _ => ?_)
  refine fe_l (fun _ => ?_)
  exact hr24 _ _ _ (by assumption)
  refine fe_l (fun _ => ?_)
  exact hr24 _ _ _ (by assumption)
  refine fe_u (by unfold fcx; omega) (by assumption) (fun _ _ => ?_)
  refine fe_u (by unfold fcx; omega) (by assumption) (fun _ _ => ?_)
  refine fe_i ?_ ?_
  refine fe_u (by unfold fcx; omega) (by assumption) (fun _ _ => ?_)
  refine fe_g ?_
  refine fe_b (fe_188 (by assumption)) (fun _ _ _ => ?_)
  refine fe_i ?_ ?_
  refine fe_b (fe_187 (by assumption)) (fun _ _ _ => ?_)
  refine fe_i ?_ ?_
  refine fe_i ?_ ?_
  exact fe_r (by assumption)
  refine fe_i ?_ ?_
  exact fe_r (by assumption)
  exact fe_r (by assumption)
  exact fe_r (by assumption)
  exact fe_r (by assumption)
  refine fe_u (by unfold fcx; omega) (by assumption) (fun _ _ => ?_)
  exact fe_r (by assumption)
theorem fe_73_24 {n : Nat} {g : Nat} {F : wq_F} {x0 : Nat} {x1 : Nat} (h : fc v F) : fe v (dk_73_24 n g F x0 x1) := by
  induction g generalizing F x0 x1 with
  | zero => exact fe_n
  | succ g ih =>
    exact fe_73_24b (fun K x0 x1 h => by first | exact ih h | exact ih K x0 x1 h) h
theorem fe_73 {n : Nat} {F : wq_F} (h : fc v F) : fe v (dk_73 n F) := by
  unfold dk_73
  refine fe_i ?_ ?_
  exact fe_r (by assumption)
  refine fe_b (fe_74 (by assumption)) (fun _ _ _ => ?_)
  exact fe_73_24 (by assumption)
theorem fe_186 {F : wq_F} {a0 : Nat} (h : fc v F) : fe v (dk_186 F a0) := by
  unfold dk_186
  exact fe_g (fe_r h)
theorem fe_195 {F : wq_F} {a0 : Nat} {a1 : Nat} (h : fc v F) : fe v (dk_195 F a0 a1) := by
  unfold dk_195
  exact fe_r (by assumption)
theorem fe_194_111 {F : wq_F} {s0 : Nat} (h : fc v F) : fe v (dk_194_111 F s0) := by
  unfold dk_194_111
  refine fe_i ?_ ?_
  refine fe_u (by unfold fcx; omega) (by assumption) (fun _ _ => ?_)
  refine fe_u (by unfold fcx; omega) (by assumption) (fun _ _ => ?_)
  exact fe_r (by assumption)
  refine fe_u (by unfold fcx; omega) (by assumption) (fun _ _ => ?_)
  refine fe_u (by unfold fcx; omega) (by assumption) (fun _ _ => ?_)
  exact fe_r (by assumption)
theorem fe_194_73 {F : wq_F} {v1 : Nat} {v3 : Nat} (h : fc v F) : fe v (dk_194_73 F v1 v3) := by
  unfold dk_194_73
  refine fe_i ?_ ?_
  refine fe_i ?_ ?_
  exact fe_194_111 (by assumption)
  refine fe_g ?_
  exact fe_194_111 (by assumption)
  refine fe_u (by unfold fcx; omega) (by assumption) (fun _ _ => ?_)
  refine fe_u (by unfold fcx; omega) (by assumption) (fun _ _ => ?_)
  exact fe_r (by assumption)
theorem fe_194 {F : wq_F} (h : fc v F) : fe v (dk_194 F) := by
  unfold dk_194
  refine fe_g ?_
  refine fe_b (fe_186 (by assumption)) (fun _ _ _ => ?_)
  refine fe_b (fe_195 (by assumption)) (fun _ _ _ => ?_)
  refine fe_i ?_ ?_
  refine fe_i ?_ ?_
  refine fe_l (fun _ => ?_)
  refine fe_b (fe_186 (by assumption)) (fun _ _ _ => ?_)
  refine fe_i ?_ ?_
  refine fe_u (by unfold fcx; omega) (by assumption) (fun _ _ => ?_)
  refine fe_l (fun _ => ?_)
  refine fe_u (by unfold fcx; omega) (by assumption) (fun _ _ => ?_)
  exact fe_r (by assumption)
  exact fe_194_73 (by assumption)
  exact fe_194_73 (by assumption)
  exact fe_194_73 (by assumption)
theorem fe_10 {F : wq_F} (h : fc v F) : fe v (dk_10 F) := by
  unfold dk_10
  refine fe_u (by unfold fcx; omega) (by assumption) (fun _ _ => ?_)
  exact fe_r (by assumption)
theorem fe_8_127 {n : Nat} {r64 : wq_F → Nat → Option (Nat × wq_F)} {F : wq_F} {v2 : Nat} {v3 : Nat} (hr64 : ∀ K x0, fc v K → fe v (r64 K x0)) (h : fc v F) : fe v (dk_8_127 n r64 F v2 v3) := by
  unfold dk_8_127
  refine fe_i ?_ ?_
  exact fe_r (by assumption)
  refine fe_g ?_
  refine fe_l (fun _ => ?_)
  exact hr64 _ _ (by assumption)
theorem fe_8_87b {n : Nat} {r64 : wq_F → Nat → Option (Nat × wq_F)} {r87 : wq_F → Nat → Nat → Option (Nat × wq_F)} {F : wq_F} {v2 : Nat} {v3 : Nat} (hr64 : ∀ K x0, fc v K → fe v (r64 K x0)) (hr87 : ∀ K x0 x1, fc v K → fe v (r87 K x0 x1)) (h : fc v F) : fe v (dk_8_87b n r64 r87 F v2 v3) := by
  unfold dk_8_87b
  refine fe_i ?_ ?_
  exact fe_8_127 hr64 (by assumption)
  refine fe_i ?_ ?_
  refine fe_g ?_
  refine fe_g ?_
  refine fe_l (fun _ => ?_)
  refine fe_g ?_
  refine fe_i ?_ ?_
  refine fe_l (fun _ => ?_)
  exact hr87 _ _ _ (by assumption)
  exact fe_8_127 hr64 (by assumption)
  exact fe_8_127 hr64 (by assumption)
theorem fe_8_87 {n : Nat} {r64 : wq_F → Nat → Option (Nat × wq_F)} {g : Nat} {F : wq_F} {x0 : Nat} {x1 : Nat} (hr64 : ∀ K x0, fc v K → fe v (r64 K x0)) (h : fc v F) : fe v (dk_8_87 n r64 g F x0 x1) := by
  induction g generalizing F x0 x1 with
  | zero => exact fe_n
  | succ g ih =>
    exact fe_8_87b hr64 (fun K x0 x1 h => by first | exact ih h | exact ih K x0 x1 h) h
theorem fe_8_64b {n : Nat} {r64 : wq_F → Nat → Option (Nat × wq_F)} {F : wq_F} {v2 : Nat} (hr64 : ∀ K x0, fc v K → fe v (r64 K x0)) (h : fc v F) : fe v (dk_8_64b n r64 F v2) := by
  unfold dk_8_64b
  refine fe_i ?_ ?_
  exact fe_r (by assumption)
  refine fe_g ?_
  refine fe_i ?_ ?_
  exact fe_8_87 hr64 (by assumption)
  exact fe_8_87 hr64 (by assumption)
theorem fe_8_64 {n : Nat} {g : Nat} {F : wq_F} {x0 : Nat} (h : fc v F) : fe v (dk_8_64 n g F x0) := by
  induction g generalizing F x0 with
  | zero => exact fe_n
  | succ g ih =>
    exact fe_8_64b (fun K x0 h => by first | exact ih h | exact ih K x0 h) h
theorem fe_8_7b {n : Nat} {r7 : wq_F → Nat → Nat → Option (Nat × wq_F)} {F : wq_F} {v1 : Nat} {v2 : Nat} (hr7 : ∀ K x0 x1, fc v K → fe v (r7 K x0 x1)) (h : fc v F) : fe v (dk_8_7b n r7 F v1 v2) := by
  unfold dk_8_7b
  refine fe_i ?_ ?_
  refine fe_g ?_
  refine fe_l (fun _ => ?_)
  refine fe_l (fun _ => ?_)
  exact hr7 _ _ _ (by assumption)
  refine fe_l (fun _ => ?_)
  refine fe_u (by unfold fcx; omega) (by assumption) (fun _ _ => ?_)
  refine fe_g ?_
  refine fe_l (fun _ => ?_)
  exact fe_8_64 (by assumption)
theorem fe_8_7 {n : Nat} {g : Nat} {F : wq_F} {x0 : Nat} {x1 : Nat} (h : fc v F) : fe v (dk_8_7 n g F x0 x1) := by
  induction g generalizing F x0 x1 with
  | zero => exact fe_n
  | succ g ih =>
    exact fe_8_7b (fun K x0 x1 h => by first | exact ih h | exact ih K x0 x1 h) h
theorem fe_8 {n : Nat} {F : wq_F} (h : fc v F) : fe v (dk_8 n F) := by
  unfold dk_8
  exact fe_8_7 (by assumption)
theorem fe_182 {n : Nat} {F : wq_F} (h : fc v F) : fe v (dk_182 n F) := by
  unfold dk_182
  refine fe_b (fe_8 (by assumption)) (fun _ _ _ => ?_)
  refine fe_i ?_ ?_
  exact fe_r (by assumption)
  refine fe_i ?_ ?_
  refine fe_l (fun _ => ?_)
  exact fe_r (by assumption)
  exact fe_r (by assumption)
theorem fe_9 {F : wq_F} (h : fc v F) : fe v (dk_9 F) := by
  unfold dk_9
  refine fe_i ?_ ?_
  refine fe_l (fun _ => ?_)
  refine fe_i ?_ ?_
  exact fe_r (by assumption)
  refine fe_g ?_
  refine fe_c (fun _ => by unfold fcx; omega) (by assumption) (fun _ _ => ?_)
  refine fe_g ?_
  refine fe_u (by unfold fcx; omega) (by assumption) (fun _ _ => ?_)
  refine fe_g ?_
  refine fe_u (by unfold fcx; omega) (by assumption) (fun _ _ => ?_)
  refine fe_g ?_
  refine fe_u (by unfold fcx; omega) (by assumption) (fun _ _ => ?_)
  refine fe_g ?_
  refine fe_g ?_
  refine fe_u (by unfold fcx; omega) (by assumption) (fun _ _ => ?_)
  refine fe_g ?_
  refine fe_u (by unfold fcx; omega) (by assumption) (fun _ _ => ?_)
  refine fe_l (fun _ => ?_)
  refine fe_u (by unfold fcx; omega) (by assumption) (fun _ _ => ?_)
  refine fe_u (by unfold fcx; omega) (by assumption) (fun _ _ => ?_)
  exact fe_r (by assumption)
  exact fe_r (by assumption)
theorem fe_181 {n : Nat} {F : wq_F} (h : fc v F) : fe v (dk_181 n F) := by
  unfold dk_181
  refine fe_b (fe_8 (by assumption)) (fun _ _ _ => ?_)
  refine fe_i ?_ ?_
  refine fe_b (fe_9 (by assumption)) (fun _ _ _ => ?_)
  refine fe_g ?_
  refine fe_u (by unfold fcx; omega) (by assumption) (fun _ _ => ?_)
  refine fe_u (by unfold fcx; omega) (by assumption) (fun _ _ => ?_)
  exact fe_r (by assumption)
  refine fe_g ?_
  refine fe_i ?_ ?_
  refine fe_g ?_
  refine fe_u (by unfold fcx; omega) (by assumption) (fun _ _ => ?_)
  refine fe_u (by unfold fcx; omega) (by assumption) (fun _ _ => ?_)
  exact fe_r (by assumption)
  refine fe_u (by unfold fcx; omega) (by assumption) (fun _ _ => ?_)
  exact fe_r (by assumption)
theorem fe_190_63 {n : Nat} {F : wq_F} {v1 : Nat} (h : fc v F) : fe v (dk_190_63 n F v1) := by
  unfold dk_190_63
  refine fe_u (by unfold fcx; omega) (by assumption) (fun _ _ => ?_)
  refine fe_b (fe_182 (by assumption)) (fun _ _ _ => ?_)
  refine fe_i ?_ ?_
  refine fe_l (fun _ => ?_)
  refine fe_i ?_ ?_
  refine fe_u (by unfold fcx; omega) (by assumption) (fun _ _ => ?_)
  exact fe_r (by assumption)
  refine fe_u (by unfold fcx; omega) (by assumption) (fun _ _ => ?_)
  refine fe_b (fe_181 (by assumption)) (fun _ _ _ => ?_)
  refine fe_u (by unfold fcx; omega) (by assumption) (fun _ _ => ?_)
  exact fe_r (by assumption)
  refine fe_u (by unfold fcx; omega) (by assumption) (fun _ _ => ?_)
  exact fe_r (by assumption)
theorem fe_0 {F : wq_F} {a0 : Nat} (h : fc v F) : fe v (dk_0 F a0) := by
  unfold dk_0
  refine fe_i ?_ ?_
  refine fe_g ?_
  refine fe_u (by unfold fcx; omega) (by assumption) (fun _ _ => ?_)
  refine fe_u (by unfold fcx; omega) (by assumption) (fun _ _ => ?_)
  exact fe_r (by assumption)
  exact fe_r (by assumption)
theorem fe_190_12b {n : Nat} {r12 : wq_F → Nat → Option (Nat × wq_F)} {F : wq_F} {v1 : Nat} (hr12 : ∀ K x0, fc v K → fe v (r12 K x0)) (h : fc v F) : fe v (dk_190_12b n r12 F v1) := by
  unfold dk_190_12b
  refine fe_i ?_ ?_
  refine fe_g ?_
  refine fe_b (fe_188 (by assumption)) (fun _ _ _ => ?_)
  refine fe_i ?_ ?_
  refine fe_g ?_
  refine fe_b (fe_187 (by assumption)) (fun _ _ _ => ?_)
  refine fe_i ?_ ?_
  exact fe_190_63 (by assumption)
  refine fe_g ?_
  refine fe_b (fe_0 (by assumption)) (fun _ _ _ => ?_)
  refine fe_l (fun _ => ?_)
  exact hr12 _ _ (by assumption)
  refine fe_g ?_
  refine fe_b (fe_0 (by assumption)) (fun _ _ _ => ?_)
  refine fe_l (fun _ => ?_)
  exact hr12 _ _ (by assumption)
  exact fe_190_63 (by assumption)
theorem fe_190_12 {n : Nat} {g : Nat} {F : wq_F} {x0 : Nat} (h : fc v F) : fe v (dk_190_12 n g F x0) := by
  induction g generalizing F x0 with
  | zero => exact fe_n
  | succ g ih =>
    exact fe_190_12b (fun K x0 h => by first | exact ih h | exact ih K x0 h) h
theorem fe_190 {n : Nat} {F : wq_F} (h : fc v F) : fe v (dk_190 n F) := by
  unfold dk_190
  refine fe_b (fe_10 (by assumption)) (fun _ _ _ => ?_)
  exact fe_190_12 (by assumption)
theorem fe_191 {F : wq_F} (h : fc v F) : fe v (dk_191 F) := by
  unfold dk_191
  exact fe_g (fe_r (fc_u (by unfold fcx; omega) (fc_u (by unfold fcx; omega) (fc_u (by unfold fcx; omega) h))))
theorem fe_176 {F : wq_F} (h : fc v F) : fe v (dk_176 F) := by
  unfold dk_176
  exact fe_r (by assumption)
theorem fe_192_107 {n : Nat} {F : wq_F} {v1 : Nat} {v2 : Nat} (h : fc v F) : fe v (dk_192_107 n F v1 v2) := by
  unfold dk_192_107
  refine fe_u (by unfold fcx; omega) (by assumption) (fun _ _ => ?_)
  refine fe_u (by unfold fcx; omega) (by assumption) (fun _ _ => ?_)
  refine fe_b (fe_186 (by assumption)) (fun _ _ _ => ?_)
  refine fe_i ?_ ?_
  refine fe_b (fe_176 (by assumption)) (fun _ _ _ => ?_)
  refine fe_i ?_ ?_
  exact fe_r (by assumption)
  refine fe_u (by unfold fcx; omega) (by assumption) (fun _ _ => ?_)
  refine fe_u (by unfold fcx; omega) (by assumption) (fun _ _ => ?_)
  refine fe_b (fe_181 (by assumption)) (fun _ _ _ => ?_)
  refine fe_u (by unfold fcx; omega) (by assumption) (fun _ _ => ?_)
  exact fe_r (by assumption)
  exact fe_r (by assumption)
theorem fe_193_18 {n : Nat} {F : wq_F} {v2 : Nat} (h : fc v F) : fe v (dk_193_18 n F v2) := by
  unfold dk_193_18
  refine fe_i ?_ ?_
  refine fe_b (fe_0 (by assumption)) (fun _ _ _ => ?_)
  exact fe_r (by assumption)
  refine fe_b (fe_0 (by assumption)) (fun _ _ _ => ?_)
  exact fe_r (by assumption)
theorem fe_193_115 {n : Nat} {F : wq_F} {v3 : Nat} {v4 : Nat} (h : fc v F) : fe v (dk_193_115 n F v3 v4) := by
  unfold dk_193_115
  refine fe_b (fe_0 (by assumption)) (fun _ _ _ => ?_)
  refine fe_i ?_ ?_
  exact fe_r (by assumption)
  exact fe_r (by assumption)
theorem fe_193_73b {n : Nat} {r73 : wq_F → Nat → Nat → Nat → Option (Nat × wq_F)} {F : wq_F} {v1 : Nat} {v3 : Nat} {v4 : Nat} (hr73 : ∀ K x0 x1 x2, fc v K → fe v (r73 K x0 x1 x2)) (h : fc v F) : fe v (dk_193_73b n r73 F v1 v3 v4) := by
  unfold dk_193_73b
  refine fe_i ?_ ?_
  refine fe_b (fe_186 (by assumption)) (fun _ _ _ => ?_)
  refine fe_b (fe_187 (by assumption)) (fun _ _ _ => ?_)
  refine fe_i ?_ ?_
  exact fe_193_115 (by assumption)
  refine fe_b (fe_186 (by assumption)) (fun _ _ _ => ?_)
  refine fe_l (fun _ => ?_)
  refine fe_l (fun _ => ?_)
  refine fe_l (fun _ => ?_)
  exact hr73 _ _ _ _ (by assumption)
  exact fe_193_115 (by assumption)
theorem fe_193_73 {n : Nat} {g : Nat} {F : wq_F} {x0 : Nat} {x1 : Nat} {x2 : Nat} (h : fc v F) : fe v (dk_193_73 n g F x0 x1 x2) := by
  induction g generalizing F x0 x1 x2 with
  | zero => exact fe_n
  | succ g ih =>
    exact fe_193_73b (fun K x0 x1 x2 h => by first | exact ih h | exact ih K x0 x1 x2 h) h
theorem fe_193 {n : Nat} {F : wq_F} {a0 : Nat} (h : fc v F) : fe v (dk_193 n F a0) := by
  unfold dk_193
  refine fe_b (fe_186 (by assumption)) (fun _ _ _ => ?_)
  refine fe_i ?_ ?_
  exact fe_193_18 (by assumption)
  refine fe_i ?_ ?_
  exact fe_193_18 (by assumption)
  refine fe_i ?_ ?_
  refine fe_b (fe_0 (by assumption)) (fun _ _ _ => ?_)
  exact fe_r (by assumption)
  refine fe_i ?_ ?_
  refine fe_b (fe_0 (by assumption)) (fun _ _ _ => ?_)
  exact fe_r (by assumption)
  refine fe_i ?_ ?_
  refine fe_b (fe_0 (by assumption)) (fun _ _ _ => ?_)
  exact fe_r (by assumption)
  exact fe_193_73 (by assumption)
theorem fe_192_24b {n : Nat} {r24 : wq_F → Nat → Nat → Option (Nat × wq_F)} {F : wq_F} {v1 : Nat} {v2 : Nat} (hr24 : ∀ K x0 x1, fc v K → fe v (r24 K x0 x1)) (h : fc v F) : fe v (dk_192_24b n r24 F v1 v2) := by
  unfold dk_192_24b
  refine fe_i ?_ ?_
  refine fe_g ?_
  refine fe_i ?_ ?_
  exact fe_192_107 (by assumption)
  refine fe_g ?_
  refine fe_i ?_ ?_
  exact fe_192_107 (by assumption)
  refine fe_g ?_
  refine fe_i ?_ ?_
  refine fe_b (fe_193 (by assumption)) (fun _ _ _ => ?_)
  refine fe_i ?_ ?_
  exact fe_192_107 (by assumption)
  refine fe_l (fun _ => ?_)
  exact hr24 _ _ _ (by assumption)
  refine fe_g ?_
  refine fe_b (fe_0 (by assumption)) (fun _ _ _ => ?_)
  refine fe_l (fun _ => ?_)
  exact hr24 _ _ _ (by assumption)
  exact fe_192_107 (by assumption)
theorem fe_192_24 {n : Nat} {g : Nat} {F : wq_F} {x0 : Nat} {x1 : Nat} (h : fc v F) : fe v (dk_192_24 n g F x0 x1) := by
  induction g generalizing F x0 x1 with
  | zero => exact fe_n
  | succ g ih =>
    exact fe_192_24b (fun K x0 x1 h => by first | exact ih h | exact ih K x0 x1 h) h
theorem fe_192 {n : Nat} {F : wq_F} (h : fc v F) : fe v (dk_192 n F) := by
  unfold dk_192
  refine fe_g ?_
  refine fe_b (fe_10 (by assumption)) (fun _ _ _ => ?_)
  exact fe_192_24 (by assumption)
theorem fe_77_28 {n : Nat} {F : wq_F} (h : fc v F) : fe v (dk_77_28 n F) := by
  unfold dk_77_28
  refine fe_b (fe_73 (by assumption)) (fun _ _ _ => ?_)
  refine fe_i ?_ ?_
  refine fe_b (fe_194 (by assumption)) (fun _ _ _ => ?_)
  exact fe_r (by assumption)
  refine fe_i ?_ ?_
  refine fe_b (fe_190 (by assumption)) (fun _ _ _ => ?_)
  exact fe_r (by assumption)
  refine fe_i ?_ ?_
  refine fe_b (fe_191 (by assumption)) (fun _ _ _ => ?_)
  exact fe_r (by assumption)
  refine fe_i ?_ ?_
  refine fe_b (fe_192 (by assumption)) (fun _ _ _ => ?_)
  exact fe_r (by assumption)
  exact fe_r (by assumption)
theorem fe_184 {F : wq_F} (h : fc v F) : fe v (dk_184 F) := by
  unfold dk_184
  refine fe_u (by unfold fcx; omega) (by assumption) (fun _ _ => ?_)
  exact fe_r (by assumption)
theorem fe_109_60 {F : wq_F} (h : fc v F) : fe v (dk_109_60 F) := by
  unfold dk_109_60
  refine fe_u (by unfold fcx; omega) (by assumption) (fun _ _ => ?_)
  refine fe_u (by unfold fcx; omega) (by assumption) (fun _ _ => ?_)
  refine fe_b (fe_184 (by assumption)) (fun _ _ _ => ?_)
  exact fe_r (by assumption)
theorem fe_109_37 {F : wq_F} {v1 : Nat} (h : fc v F) : fe v (dk_109_37 F v1) := by
  unfold dk_109_37
  refine fe_i ?_ ?_
  refine fe_i ?_ ?_
  refine fe_u (by unfold fcx; omega) (by assumption) (fun _ _ => ?_)
  exact fe_109_60 (by assumption)
  exact fe_109_60 (by assumption)
  exact fe_109_60 (by assumption)
theorem fe_109 {F : wq_F} {a0 : Nat} (h : fc v F) : fe v (dk_109 F a0) := by
  unfold dk_109
  refine fe_i ?_ ?_
  refine fe_u (by unfold fcx; omega) (by assumption) (fun _ _ => ?_)
  refine fe_i ?_ ?_
  refine fe_i ?_ ?_
  refine fe_u (by unfold fcx; omega) (by assumption) (fun _ _ => ?_)
  exact fe_109_60 (by assumption)
  exact fe_109_37 (by assumption)
  exact fe_109_37 (by assumption)
  exact fe_r (by assumption)
theorem fe_77 {n : Nat} {F : wq_F} (h : fc v F) : fe v (dk_77 n F) := by
  unfold dk_77
  refine fe_i ?_ ?_
  refine fe_i ?_ ?_
  exact fe_77_28 (by assumption)
  refine fe_b (fe_109 (by assumption)) (fun _ _ _ => ?_)
  exact fe_77_28 (by assumption)
  exact fe_77_28 (by assumption)
theorem fe_58 {F : wq_F} {a0 : Nat} {a1 : Nat} {a2 : Nat} {a3 : Nat} (h : fc v F) : fe v (dk_58 F a0 a1 a2 a3) := by
  unfold dk_58
  refine fe_i ?_ ?_
  refine fe_g ?_
  refine fe_u (by unfold fcx; omega) (by assumption) (fun _ _ => ?_)
  refine fe_g ?_
  refine fe_u (by unfold fcx; omega) (by assumption) (fun _ _ => ?_)
  refine fe_g ?_
  refine fe_u (by unfold fcx; omega) (by assumption) (fun _ _ => ?_)
  refine fe_g ?_
  refine fe_u (by unfold fcx; omega) (by assumption) (fun _ _ => ?_)
  refine fe_l (fun _ => ?_)
  refine fe_u (by unfold fcx; omega) (by assumption) (fun _ _ => ?_)
  refine fe_l (fun _ => ?_)
  exact fe_r (by assumption)
  refine fe_l (fun _ => ?_)
  exact fe_r (by assumption)
theorem fe_78 {F : wq_F} {a0 : Nat} {a1 : Nat} {a2 : Nat} {a3 : Nat} (h : fc v F) : fe v (dk_78 F a0 a1 a2 a3) := by
  unfold dk_78
  refine fe_b (fe_58 (by assumption)) (fun _ _ _ => ?_)
  exact fe_r (by assumption)
theorem fe_79 {F : wq_F} (h : fc v F) : fe v (dk_79 F) := by
  unfold dk_79
  refine fe_l (fun _ => ?_)
  refine fe_i ?_ ?_
  exact fe_r (by assumption)
  refine fe_i ?_ ?_
  exact fe_r (by assumption)
  refine fe_i ?_ ?_
  exact fe_r (by assumption)
  refine fe_i ?_ ?_
  exact fe_r (by assumption)
  refine fe_i ?_ ?_
  exact fe_r (by assumption)
  refine fe_i ?_ ?_
  exact fe_r (by assumption)
  refine fe_i ?_ ?_
  exact fe_r (by assumption)
  refine fe_i ?_ ?_
  exact fe_r (by assumption)
  refine fe_i ?_ ?_
  exact fe_r (by assumption)
  refine fe_i ?_ ?_
  exact fe_r (by assumption)
  refine fe_i ?_ ?_
  exact fe_r (by assumption)
  exact fe_r (by assumption)
theorem fe_80_2b {R : dk_Rt} {n : Nat} {r2 : wq_F → Nat → Nat → Option (Nat × wq_F)} {F : wq_F} {v1 : Nat} {v2 : Nat} (hR : ∀ m as K w, fc w K → fe w (R m as K)) (hr2 : ∀ K x0 x1, fc v K → fe v (r2 K x0 x1)) (h : fc v F) : fe v (dk_80_2b R n r2 F v1 v2) := by
  unfold dk_80_2b
  refine fe_i ?_ ?_
  refine fe_i ?_ ?_
  refine fe_b (hR _ _ _ _ (by assumption)) (fun _ _ _ => ?_)
  exact fe_r (by assumption)
  exact fe_r (by assumption)
  refine fe_b (fe_79 (by assumption)) (fun _ _ _ => ?_)
  refine fe_i ?_ ?_
  refine fe_i ?_ ?_
  refine fe_b (hR _ _ _ _ (by assumption)) (fun _ _ _ => ?_)
  exact fe_r (by assumption)
  exact fe_r (by assumption)
  refine fe_b (hR _ _ _ _ (by assumption)) (fun _ _ _ => ?_)
  refine fe_l (fun _ => ?_)
  exact hr2 _ _ _ (by assumption)
theorem fe_80_2 {R : dk_Rt} {n : Nat} {g : Nat} {F : wq_F} {x0 : Nat} {x1 : Nat} (hR : ∀ m as K w, fc w K → fe w (R m as K)) (h : fc v F) : fe v (dk_80_2 R n g F x0 x1) := by
  induction g generalizing F x0 x1 with
  | zero => exact fe_n
  | succ g ih =>
    exact fe_80_2b hR (fun K x0 x1 h => by first | exact ih h | exact ih K x0 x1 h) h
theorem fe_80 {R : dk_Rt} {n : Nat} {F : wq_F} {a0 : Nat} (hR : ∀ m as K w, fc w K → fe w (R m as K)) (h : fc v F) : fe v (dk_80 R n F a0) := by
  unfold dk_80
  exact fe_80_2 hR (by assumption)
theorem fe_82 {F : wq_F} (h : fc v F) : fe v (dk_82 F) := by
  unfold dk_82
  refine fe_u (by unfold fcx; omega) (by assumption) (fun _ _ => ?_)
  refine fe_u (by unfold fcx; omega) (by assumption) (fun _ _ => ?_)
  exact fe_r (by assumption)
theorem fe_83 {F : wq_F} {a0 : Nat} (h : fc v F) : fe v (dk_83 F a0) := by
  unfold dk_83
  refine fe_u (by unfold fcx; omega) (by assumption) (fun _ _ => ?_)
  refine fe_g ?_
  refine fe_u (by unfold fcx; omega) (by assumption) (fun _ _ => ?_)
  refine fe_g ?_
  refine fe_u (by unfold fcx; omega) (by assumption) (fun _ _ => ?_)
  refine fe_g ?_
  refine fe_u (by unfold fcx; omega) (by assumption) (fun _ _ => ?_)
  refine fe_g ?_
  refine fe_u (by unfold fcx; omega) (by assumption) (fun _ _ => ?_)
  exact fe_r (by assumption)
theorem fe_84 {F : wq_F} (h : fc v F) : fe v (dk_84 F) := by
  unfold dk_84
  refine fe_g ?_
  exact fe_r (by assumption)
theorem fe_110 {n : Nat} {F : wq_F} {a0 : Nat} (h : fc v F) : fe v (dk_110 n F a0) := by
  unfold dk_110
  refine fe_i ?_ ?_
  refine fe_b (fe_77 (by assumption)) (fun _ _ _ => ?_)
  exact fe_r (by assumption)
  refine fe_b (fe_109 (by assumption)) (fun _ _ _ => ?_)
  exact fe_r (by assumption)
theorem fe_111 {n : Nat} {F : wq_F} {a0 : Nat} (h : fc v F) : fe v (dk_111 n F a0) := by
  unfold dk_111
  refine fe_i ?_ ?_
  refine fe_i ?_ ?_
  exact fe_r (by assumption)
  refine fe_b (fe_77 (by assumption)) (fun _ _ _ => ?_)
  exact fe_r (by assumption)
  refine fe_i ?_ ?_
  exact fe_r (by assumption)
  refine fe_b (fe_77 (by assumption)) (fun _ _ _ => ?_)
  exact fe_r (by assumption)
theorem fe_163 {F : wq_F} {a0 : Nat} (h : fc v F) : fe v (dk_163 F a0) := by
  unfold dk_163
  refine fe_g ?_
  refine fe_l (fun _ => ?_)
  refine fe_g ?_
  refine fe_u (by unfold fcx; omega) (by assumption) (fun _ _ => ?_)
  exact fe_r (by assumption)
theorem fe_112 {F : wq_F} {a0 : Nat} {a1 : Nat} {a2 : Nat} {a3 : Nat} (h : fc v F) : fe v (dk_112 F a0 a1 a2 a3) := by
  unfold dk_112
  refine fe_b (fe_78 (by assumption)) (fun _ _ _ => ?_)
  refine fe_b (fe_163 (by assumption)) (fun _ _ _ => ?_)
  exact fe_r (by assumption)
theorem fe_162 {F : wq_F} {a0 : Nat} (h : fc v F) : fe v (dk_162 F a0) := by
  unfold dk_162
  refine fe_g ?_
  refine fe_u (by unfold fcx; omega) (by assumption) (fun _ _ => ?_)
  exact fe_r (by assumption)
theorem fe_113 {F : wq_F} {a0 : Nat} (h : fc v F) : fe v (dk_113 F a0) := by
  unfold dk_113
  refine fe_b (fe_78 (by assumption)) (fun _ _ _ => ?_)
  refine fe_b (fe_162 (by assumption)) (fun _ _ _ => ?_)
  exact fe_r (by assumption)
theorem fe_146 {F : wq_F} (h : fc v F) : fe v (dk_146 F) := by
  unfold dk_146
  refine fe_l (fun _ => ?_)
  refine fe_i ?_ ?_
  exact fe_r (by assumption)
  refine fe_i ?_ ?_
  exact fe_r (by assumption)
  refine fe_i ?_ ?_
  exact fe_r (by assumption)
  refine fe_i ?_ ?_
  exact fe_r (by assumption)
  exact fe_r (by assumption)
theorem fe_114 {F : wq_F} (h : fc v F) : fe v (dk_114 F) := by
  unfold dk_114
  refine fe_l (fun _ => ?_)
  refine fe_i ?_ ?_
  exact fe_r (by assumption)
  refine fe_i ?_ ?_
  exact fe_r (by assumption)
  refine fe_i ?_ ?_
  exact fe_r (by assumption)
  refine fe_i ?_ ?_
  exact fe_r (by assumption)
  refine fe_i ?_ ?_
  exact fe_r (by assumption)
  refine fe_i ?_ ?_
  exact fe_r (by assumption)
  refine fe_i ?_ ?_
  exact fe_r (by assumption)
  refine fe_i ?_ ?_
  exact fe_r (by assumption)
  refine fe_i ?_ ?_
  exact fe_r (by assumption)
  refine fe_i ?_ ?_
  exact fe_r (by assumption)
  refine fe_b (fe_146 (by assumption)) (fun _ _ _ => ?_)
  refine fe_i ?_ ?_
  exact fe_r (by assumption)
  exact fe_r (by assumption)
theorem fe_168 {F : wq_F} {a0 : Nat} (h : fc v F) : fe v (dk_168 F a0) := by
  unfold dk_168
  refine fe_u (by unfold fcx; omega) (by assumption) (fun _ _ => ?_)
  exact fe_r (by assumption)
theorem fe_115 {R : dk_Rt} {n : Nat} {F : wq_F} {a0 : Nat} (hR : ∀ m as K w, fc w K → fe w (R m as K)) (h : fc v F) : fe v (dk_115 R n F a0) := by
  unfold dk_115
  refine fe_b (fe_84 (by assumption)) (fun _ _ _ => ?_)
  refine fe_b (hR _ _ _ _ (by assumption)) (fun _ _ _ => ?_)
  refine fe_b (fe_168 (by assumption)) (fun _ _ _ => ?_)
  refine fe_b (fe_84 (by assumption)) (fun _ _ _ => ?_)
  refine fe_i ?_ ?_
  exact fe_r (by assumption)
  refine fe_b (fe_113 (by assumption)) (fun _ _ _ => ?_)
  exact fe_r (by assumption)
theorem fe_164 {F : wq_F} (h : fc v F) : fe v (dk_164 F) := by
  unfold dk_164
  refine fe_g ?_
  exact fe_r (by assumption)
theorem fe_165 {F : wq_F} {a0 : Nat} (h : fc v F) : fe v (dk_165 F a0) := by
  unfold dk_165
  refine fe_g ?_
  refine fe_u (by unfold fcx; omega) (by assumption) (fun _ _ => ?_)
  exact fe_r (by assumption)
theorem fe_118 {n : Nat} {F : wq_F} (h : fc v F) : fe v (dk_118 n F) := by
  unfold dk_118
  refine fe_b (fe_164 (by assumption)) (fun _ _ _ => ?_)
  refine fe_i ?_ ?_
  refine fe_b (fe_109 (by assumption)) (fun _ _ _ => ?_)
  exact fe_r (by assumption)
  refine fe_b (fe_77 (by assumption)) (fun _ _ _ => ?_)
  refine fe_b (fe_164 (by assumption)) (fun _ _ _ => ?_)
  refine fe_b (fe_78 (by assumption)) (fun _ _ _ => ?_)
  refine fe_b (fe_165 (by assumption)) (fun _ _ _ => ?_)
  exact fe_r (by assumption)
theorem fe_116 {R : dk_Rt} {n : Nat} {F : wq_F} {a0 : Nat} (hR : ∀ m as K w, fc w K → fe w (R m as K)) (h : fc v F) : fe v (dk_116 R n F a0) := by
  unfold dk_116
  refine fe_i ?_ ?_
  refine fe_b (fe_109 (by assumption)) (fun _ _ _ => ?_)
  exact fe_r (by assumption)
  refine fe_b (fe_111 (by assumption)) (fun _ _ _ => ?_)
  refine fe_i ?_ ?_
  refine fe_b (fe_78 (by assumption)) (fun _ _ _ => ?_)
  refine fe_l (fun _ => ?_)
  refine fe_i ?_ ?_
  refine fe_b (fe_118 (by assumption)) (fun _ _ _ => ?_)
  exact fe_r (by assumption)
  refine fe_i ?_ ?_
  refine fe_b (fe_77 (by assumption)) (fun _ _ _ => ?_)
  refine fe_b (hR _ _ _ _ (by assumption)) (fun _ _ _ => ?_)
  refine fe_b (fe_110 (by assumption)) (fun _ _ _ => ?_)
  exact fe_r (by assumption)
  refine fe_i ?_ ?_
  refine fe_b (hR _ _ _ _ (by assumption)) (fun _ _ _ => ?_)
  exact fe_r (by assumption)
  refine fe_i ?_ ?_
  refine fe_b (hR _ _ _ _ (by assumption)) (fun _ _ _ => ?_)
  exact fe_r (by assumption)
  refine fe_i ?_ ?_
  refine fe_b (hR _ _ _ _ (by assumption)) (fun _ _ _ => ?_)
  exact fe_r (by assumption)
  refine fe_i ?_ ?_
  refine fe_b (hR _ _ _ _ (by assumption)) (fun _ _ _ => ?_)
  exact fe_r (by assumption)
  refine fe_i ?_ ?_
  refine fe_b (hR _ _ _ _ (by assumption)) (fun _ _ _ => ?_)
  exact fe_r (by assumption)
  refine fe_i ?_ ?_
  refine fe_b (hR _ _ _ _ (by assumption)) (fun _ _ _ => ?_)
  exact fe_r (by assumption)
  refine fe_i ?_ ?_
  refine fe_b (hR _ _ _ _ (by assumption)) (fun _ _ _ => ?_)
  exact fe_r (by assumption)
  refine fe_i ?_ ?_
  refine fe_b (hR _ _ _ _ (by assumption)) (fun _ _ _ => ?_)
  exact fe_r (by assumption)
  refine fe_i ?_ ?_
  refine fe_b (hR _ _ _ _ (by assumption)) (fun _ _ _ => ?_)
  exact fe_r (by assumption)
  refine fe_i ?_ ?_
  refine fe_b (hR _ _ _ _ (by assumption)) (fun _ _ _ => ?_)
  exact fe_r (by assumption)
  refine fe_i ?_ ?_
  refine fe_b (hR _ _ _ _ (by assumption)) (fun _ _ _ => ?_)
  exact fe_r (by assumption)
  refine fe_i ?_ ?_
  refine fe_b (hR _ _ _ _ (by assumption)) (fun _ _ _ => ?_)
  exact fe_r (by assumption)
  refine fe_i ?_ ?_
  refine fe_b (hR _ _ _ _ (by assumption)) (fun _ _ _ => ?_)
  exact fe_r (by assumption)
  refine fe_i ?_ ?_
  refine fe_b (hR _ _ _ _ (by assumption)) (fun _ _ _ => ?_)
  exact fe_r (by assumption)
  refine fe_i ?_ ?_
  refine fe_b (hR _ _ _ _ (by assumption)) (fun _ _ _ => ?_)
  exact fe_r (by assumption)
  refine fe_i ?_ ?_
  refine fe_b (hR _ _ _ _ (by assumption)) (fun _ _ _ => ?_)
  exact fe_r (by assumption)
  refine fe_i ?_ ?_
  refine fe_b (hR _ _ _ _ (by assumption)) (fun _ _ _ => ?_)
  exact fe_r (by assumption)
  refine fe_i ?_ ?_
  refine fe_b (hR _ _ _ _ (by assumption)) (fun _ _ _ => ?_)
  exact fe_r (by assumption)
  refine fe_b (hR _ _ _ _ (by assumption)) (fun _ _ _ => ?_)
  exact fe_r (by assumption)
  exact fe_r (by assumption)
theorem fe_117_42 {R : dk_Rt} {n : Nat} {F : wq_F} {v2 : Nat} {v3 : Nat} (hR : ∀ m as K w, fc w K → fe w (R m as K)) (h : fc v F) : fe v (dk_117_42 R n F v2 v3) := by
  unfold dk_117_42
  refine fe_b (fe_78 (by assumption)) (fun _ _ _ => ?_)
  refine fe_b (fe_162 (by assumption)) (fun _ _ _ => ?_)
  refine fe_b (fe_111 (by assumption)) (fun _ _ _ => ?_)
  exact fe_r (by assumption)
theorem fe_117 {R : dk_Rt} {n : Nat} {F : wq_F} {a0 : Nat} (hR : ∀ m as K w, fc w K → fe w (R m as K)) (h : fc v F) : fe v (dk_117 R n F a0) := by
  unfold dk_117
  refine fe_b (fe_84 (by assumption)) (fun _ _ _ => ?_)
  refine fe_b (fe_78 (by assumption)) (fun _ _ _ => ?_)
  refine fe_b (fe_77 (by assumption)) (fun _ _ _ => ?_)
  refine fe_b (fe_114 (by assumption)) (fun _ _ _ => ?_)
  refine fe_i ?_ ?_
  exact fe_117_42 hR (by assumption)
  refine fe_b (hR _ _ _ _ (by assumption)) (fun _ _ _ => ?_)
  exact fe_117_42 hR (by assumption)
theorem fe_159_4b {n : Nat} {r4 : wq_F → Nat → Nat → Option (Nat × wq_F)} {F : wq_F} {v2 : Nat} {v3 : Nat} (hr4 : ∀ K x0 x1, fc v K → fe v (r4 K x0 x1)) (h : fc v F) : fe v (dk_159_4b n r4 F v2 v3) := by
  unfold dk_159_4b
  refine fe_i ?_ ?_
  refine fe_i ?_ ?_
  exact fe_r (by assumption)
  refine fe_g ?_
  refine fe_g ?_
  refine fe_u (by unfold fcx; omega) (by assumption) (fun _ _ => ?_)
  refine fe_l (fun _ => ?_)
  exact hr4 _ _ _ (by assumption)
  exact fe_r (by assumption)
theorem fe_159_4 {n : Nat} {g : Nat} {F : wq_F} {x0 : Nat} {x1 : Nat} (h : fc v F) : fe v (dk_159_4 n g F x0 x1) := by
  induction g generalizing F x0 x1 with
  | zero => exact fe_n
  | succ g ih =>
    exact fe_159_4b (fun K x0 x1 h => by first | exact ih h | exact ih K x0 x1 h) h
theorem fe_159 {n : Nat} {F : wq_F} {a0 : Nat} (h : fc v F) : fe v (dk_159 n F a0) := by
  unfold dk_159
  exact fe_159_4 (by assumption)
theorem fe_120 {n : Nat} {F : wq_F} {a0 : Nat} {a1 : Nat} (h : fc v F) : fe v (dk_120 n F a0 a1) := by
  unfold dk_120
  refine fe_b (fe_164 (by assumption)) (fun _ _ _ => ?_)
  refine fe_b (fe_159 (by assumption)) (fun _ _ _ => ?_)
  refine fe_b (fe_165 (by assumption)) (fun _ _ _ => ?_)
  refine fe_b (fe_113 (by assumption)) (fun _ _ _ => ?_)
  exact fe_r (by assumption)
theorem fe_119 {R : dk_Rt} {n : Nat} {F : wq_F} {a0 : Nat} (hR : ∀ m as K w, fc w K → fe w (R m as K)) (h : fc v F) : fe v (dk_119 R n F a0) := by
  unfold dk_119
  refine fe_b (fe_164 (by assumption)) (fun _ _ _ => ?_)
  refine fe_b (fe_84 (by assumption)) (fun _ _ _ => ?_)
  refine fe_b (fe_77 (by assumption)) (fun _ _ _ => ?_)
  refine fe_b (fe_78 (by assumption)) (fun _ _ _ => ?_)
  refine fe_b (hR _ _ _ _ (by assumption)) (fun _ _ _ => ?_)
  refine fe_b (fe_78 (by assumption)) (fun _ _ _ => ?_)
  refine fe_b (fe_165 (by assumption)) (fun _ _ _ => ?_)
  refine fe_b (fe_163 (by assumption)) (fun _ _ _ => ?_)
  refine fe_b (fe_110 (by assumption)) (fun _ _ _ => ?_)
  refine fe_b (hR _ _ _ _ (by assumption)) (fun _ _ _ => ?_)
  refine fe_b (fe_110 (by assumption)) (fun _ _ _ => ?_)
  refine fe_b (fe_78 (by assumption)) (fun _ _ _ => ?_)
  refine fe_b (fe_120 (by assumption)) (fun _ _ _ => ?_)
  exact fe_r (by assumption)
theorem fe_121 {R : dk_Rt} {n : Nat} {F : wq_F} {a0 : Nat} (hR : ∀ m as K w, fc w K → fe w (R m as K)) (h : fc v F) : fe v (dk_121 R n F a0) := by
  unfold dk_121
  refine fe_b (fe_164 (by assumption)) (fun _ _ _ => ?_)
  refine fe_b (fe_84 (by assumption)) (fun _ _ _ => ?_)
  refine fe_b (fe_77 (by assumption)) (fun _ _ _ => ?_)
  refine fe_b (fe_165 (by assumption)) (fun _ _ _ => ?_)
  refine fe_b (hR _ _ _ _ (by assumption)) (fun _ _ _ => ?_)
  refine fe_b (fe_110 (by assumption)) (fun _ _ _ => ?_)
  refine fe_b (fe_78 (by assumption)) (fun _ _ _ => ?_)
  refine fe_b (hR _ _ _ _ (by assumption)) (fun _ _ _ => ?_)
  refine fe_b (fe_78 (by assumption)) (fun _ _ _ => ?_)
  refine fe_b (fe_164 (by assumption)) (fun _ _ _ => ?_)
  refine fe_b (fe_78 (by assumption)) (fun _ _ _ => ?_)
  refine fe_b (fe_165 (by assumption)) (fun _ _ _ => ?_)
  refine fe_b (fe_159 (by assumption)) (fun _ _ _ => ?_)
  refine fe_b (fe_113 (by assumption)) (fun _ _ _ => ?_)
  refine fe_b (fe_78 (by assumption)) (fun _ _ _ => ?_)
  refine fe_b (fe_168 (by assumption)) (fun _ _ _ => ?_)
  refine fe_b (fe_120 (by assumption)) (fun _ _ _ => ?_)
  exact fe_r (by assumption)
theorem fe_122_112 {R : dk_Rt} {n : Nat} {F : wq_F} {v2 : Nat} {v3 : Nat} (hR : ∀ m as K w, fc w K → fe w (R m as K)) (h : fc v F) : fe v (dk_122_112 R n F v2 v3) := by
  unfold dk_122_112
  refine fe_b (fe_110 (by assumption)) (fun _ _ _ => ?_)
  refine fe_b (fe_159 (by assumption)) (fun _ _ _ => ?_)
  refine fe_b (fe_159 (by assumption)) (fun _ _ _ => ?_)
  exact fe_r (by assumption)
theorem fe_122_69 {R : dk_Rt} {n : Nat} {F : wq_F} {v1 : Nat} {v2 : Nat} {v3 : Nat} (hR : ∀ m as K w, fc w K → fe w (R m as K)) (h : fc v F) : fe v (dk_122_69 R n F v1 v2 v3) := by
  unfold dk_122_69
  refine fe_i ?_ ?_
  refine fe_b (fe_78 (by assumption)) (fun _ _ _ => ?_)
  refine fe_b (fe_159 (by assumption)) (fun _ _ _ => ?_)
  refine fe_b (fe_77 (by assumption)) (fun _ _ _ => ?_)
  refine fe_b (hR _ _ _ _ (by assumption)) (fun _ _ _ => ?_)
  exact fe_122_112 hR (by assumption)
  exact fe_122_112 hR (by assumption)
theorem fe_122_15b {R : dk_Rt} {n : Nat} {r15 : wq_F → Nat → Nat → Nat → Nat → Option (Nat × wq_F)} {F : wq_F} {v1 : Nat} {v2 : Nat} {v3 : Nat} {v4 : Nat} (hR : ∀ m as K w, fc w K → fe w (R m as K)) (hr15 : ∀ K x0 x1 x2 x3, fc v K → fe v (r15 K x0 x1 x2 x3)) (h : fc v F) : fe v (dk_122_15b R n r15 F v1 v2 v3 v4) := by
  unfold dk_122_15b
  refine fe_i ?_ ?_
  exact fe_122_69 hR (by assumption)
  refine fe_i ?_ ?_
  refine fe_b (fe_78 (by assumption)) (fun _ _ _ => ?_)
  refine fe_b (fe_159 (by assumption)) (fun _ _ _ => ?_)
  refine fe_b (fe_77 (by assumption)) (fun _ _ _ => ?_)
  refine fe_b (hR _ _ _ _ (by assumption)) (fun _ _ _ => ?_)
  refine fe_l (fun _ => ?_)
  exact hr15 _ _ _ _ _ (by assumption)
  exact fe_122_69 hR (by assumption)
theorem fe_122_15 {R : dk_Rt} {n : Nat} {g : Nat} {F : wq_F} {x0 : Nat} {x1 : Nat} {x2 : Nat} {x3 : Nat} (hR : ∀ m as K w, fc w K → fe w (R m as K)) (h : fc v F) : fe v (dk_122_15 R n g F x0 x1 x2 x3) := by
  induction g generalizing F x0 x1 x2 x3 with
  | zero => exact fe_n
  | succ g ih =>
    exact fe_122_15b hR (fun K x0 x1 x2 x3 h => by first | exact ih h | exact ih K x0 x1 x2 x3 h) h
theorem fe_122 {R : dk_Rt} {n : Nat} {F : wq_F} {a0 : Nat} (hR : ∀ m as K w, fc w K → fe w (R m as K)) (h : fc v F) : fe v (dk_122 R n F a0) := by
  unfold dk_122
  refine fe_b (fe_77 (by assumption)) (fun _ _ _ => ?_)
  refine fe_b (hR _ _ _ _ (by assumption)) (fun _ _ _ => ?_)
  exact fe_122_15 hR (by assumption)
theorem fe_123 {R : dk_Rt} {n : Nat} {F : wq_F} {a0 : Nat} (hR : ∀ m as K w, fc w K → fe w (R m as K)) (h : fc v F) : fe v (dk_123 R n F a0) := by
  unfold dk_123
  refine fe_b (hR _ _ _ _ (by assumption)) (fun _ _ _ => ?_)
  refine fe_b (fe_110 (by assumption)) (fun _ _ _ => ?_)
  refine fe_b (fe_78 (by assumption)) (fun _ _ _ => ?_)
  refine fe_b (fe_163 (by assumption)) (fun _ _ _ => ?_)
  refine fe_b (hR _ _ _ _ (by assumption)) (fun _ _ _ => ?_)
  exact fe_r (by assumption)
theorem fe_166 {F : wq_F} {a0 : Nat} (h : fc v F) : fe v (dk_166 F a0) := by
  unfold dk_166
  refine fe_g ?_
  refine fe_g ?_
  refine fe_i ?_ ?_
  refine fe_i ?_ ?_
  refine fe_g ?_
  refine fe_l (fun _ => ?_)
  refine fe_g ?_
  refine fe_u (by unfold fcx; omega) (by assumption) (fun _ _ => ?_)
  refine fe_g ?_
  refine fe_u (by unfold fcx; omega) (by assumption) (fun _ _ => ?_)
  refine fe_g ?_
  refine fe_u (by unfold fcx; omega) (by assumption) (fun _ _ => ?_)
  refine fe_l (fun _ => ?_)
  refine fe_u (by unfold fcx; omega) (by assumption) (fun _ _ => ?_)
  exact fe_r (by assumption)
  exact fe_r (by assumption)
  exact fe_r (by assumption)
theorem fe_124 {F : wq_F} (h : fc v F) : fe v (dk_124 F) := by
  unfold dk_124
  refine fe_i ?_ ?_
  refine fe_b (fe_166 (by assumption)) (fun _ _ _ => ?_)
  refine fe_i ?_ ?_
  refine fe_b (fe_109 (by assumption)) (fun _ _ _ => ?_)
  exact fe_r (by assumption)
  exact fe_r (by assumption)
  refine fe_b (fe_109 (by assumption)) (fun _ _ _ => ?_)
  exact fe_r (by assumption)
theorem fe_125_2b {n : Nat} {r2 : wq_F → Nat → Option (Nat × wq_F)} {F : wq_F} {v1 : Nat} (hr2 : ∀ K x0, fc v K → fe v (r2 K x0)) (h : fc v F) : fe v (dk_125_2b n r2 F v1) := by
  unfold dk_125_2b
  refine fe_i ?_ ?_
  exact fe_r (by assumption)
  refine fe_i ?_ ?_
  refine fe_b (fe_77 (by assumption)) (fun _ _ _ => ?_)
  refine fe_b (fe_124 (by assumption)) (fun _ _ _ => ?_)
  refine fe_b (fe_77 (by assumption)) (fun _ _ _ => ?_)
  refine fe_l (fun _ => ?_)
  exact hr2 _ _ (by assumption)
  exact fe_r (by assumption)
theorem fe_125_2 {n : Nat} {g : Nat} {F : wq_F} {x0 : Nat} (h : fc v F) : fe v (dk_125_2 n g F x0) := by
  induction g generalizing F x0 with
  | zero => exact fe_n
  | succ g ih =>
    exact fe_125_2b (fun K x0 h => by first | exact ih h | exact ih K x0 h) h
theorem fe_125 {n : Nat} {F : wq_F} (h : fc v F) : fe v (dk_125 n F) := by
  unfold dk_125
  exact fe_125_2 (by assumption)
theorem fe_126 {R : dk_Rt} {n : Nat} {F : wq_F} {a0 : Nat} (hR : ∀ m as K w, fc w K → fe w (R m as K)) (h : fc v F) : fe v (dk_126 R n F a0) := by
  unfold dk_126
  refine fe_b (fe_77 (by assumption)) (fun _ _ _ => ?_)
  refine fe_b (fe_124 (by assumption)) (fun _ _ _ => ?_)
  refine fe_b (fe_77 (by assumption)) (fun _ _ _ => ?_)
  refine fe_i ?_ ?_
  refine fe_b (hR _ _ _ _ (by assumption)) (fun _ _ _ => ?_)
  refine fe_b (fe_168 (by assumption)) (fun _ _ _ => ?_)
  exact fe_r (by assumption)
  refine fe_b (fe_125 (by assumption)) (fun _ _ _ => ?_)
  refine fe_b (hR _ _ _ _ (by assumption)) (fun _ _ _ => ?_)
  refine fe_b (fe_168 (by assumption)) (fun _ _ _ => ?_)
  exact fe_r (by assumption)
theorem fe_157 {F : wq_F} {a0 : Nat} (h : fc v F) : fe v (dk_157 F a0) := by
  unfold dk_157
  refine fe_i ?_ ?_
  refine fe_g ?_
  refine fe_u (by unfold fcx; omega) (by assumption) (fun _ _ => ?_)
  refine fe_u (by unfold fcx; omega) (by assumption) (fun _ _ => ?_)
  refine fe_l (fun _ => ?_)
  exact fe_r (by assumption)
  exact fe_r (by assumption)
theorem fe_167_2b {n : Nat} {r2 : wq_F → Nat → Nat → Nat → Option (Nat × wq_F)} {F : wq_F} {v1 : Nat} {v2 : Nat} {v3 : Nat} (hr2 : ∀ K x0 x1 x2, fc v K → fe v (r2 K x0 x1 x2)) (h : fc v F) : fe v (dk_167_2b n r2 F v1 v2 v3) := by
  unfold dk_167_2b
  refine fe_i ?_ ?_
  refine fe_l (fun _ => ?_)
  refine fe_g ?_
  refine fe_u (by unfold fcx; omega) (by assumption) (fun _ _ => ?_)
  refine fe_l (fun _ => ?_)
  exact hr2 _ _ _ _ (by assumption)
  exact fe_r (by assumption)
theorem fe_167_2 {n : Nat} {g : Nat} {F : wq_F} {x0 : Nat} {x1 : Nat} {x2 : Nat} (h : fc v F) : fe v (dk_167_2 n g F x0 x1 x2) := by
  induction g generalizing F x0 x1 x2 with
  | zero => exact fe_n
  | succ g ih =>
    exact fe_167_2b (fun K x0 x1 x2 h => by first | exact ih h | exact ih K x0 x1 x2 h) h
theorem fe_167 {n : Nat} {F : wq_F} {a0 : Nat} {a1 : Nat} (h : fc v F) : fe v (dk_167 n F a0 a1) := by
  unfold dk_167
  exact fe_167_2 (by assumption)
theorem fe_127_82 {R : dk_Rt} {n : Nat} {F : wq_F} {v1 : Nat} {v2 : Nat} {v3 : Nat} {v4 : Nat} {v5 : Nat} (hR : ∀ m as K w, fc w K → fe w (R m as K)) (h : fc v F) : fe v (dk_127_82 R n F v1 v2 v3 v4 v5) := by
  unfold dk_127_82
  refine fe_b (fe_78 (by assumption)) (fun _ _ _ => ?_)
  refine fe_b (fe_78 (by assumption)) (fun _ _ _ => ?_)
  refine fe_b (fe_78 (by assumption)) (fun _ _ _ => ?_)
  refine fe_b (fe_165 (by assumption)) (fun _ _ _ => ?_)
  refine fe_b (fe_110 (by assumption)) (fun _ _ _ => ?_)
  refine fe_b (fe_162 (by assumption)) (fun _ _ _ => ?_)
  refine fe_b (fe_167 (by assumption)) (fun _ _ _ => ?_)
  refine fe_b (hR _ _ _ _ (by assumption)) (fun _ _ _ => ?_)
  refine fe_b (fe_110 (by assumption)) (fun _ _ _ => ?_)
  refine fe_b (fe_113 (by assumption)) (fun _ _ _ => ?_)
  refine fe_b (fe_78 (by assumption)) (fun _ _ _ => ?_)
  refine fe_b (fe_120 (by assumption)) (fun _ _ _ => ?_)
  exact fe_r (by assumption)
theorem fe_127 {R : dk_Rt} {n : Nat} {F : wq_F} {a0 : Nat} {a1 : Nat} {a2 : Nat} (hR : ∀ m as K w, fc w K → fe w (R m as K)) (h : fc v F) : fe v (dk_127 R n F a0 a1 a2) := by
  unfold dk_127
  refine fe_b (fe_164 (by assumption)) (fun _ _ _ => ?_)
  refine fe_b (fe_84 (by assumption)) (fun _ _ _ => ?_)
  refine fe_b (fe_77 (by assumption)) (fun _ _ _ => ?_)
  refine fe_b (hR _ _ _ _ (by assumption)) (fun _ _ _ => ?_)
  refine fe_b (fe_110 (by assumption)) (fun _ _ _ => ?_)
  refine fe_b (hR _ _ _ _ (by assumption)) (fun _ _ _ => ?_)
  refine fe_b (fe_111 (by assumption)) (fun _ _ _ => ?_)
  refine fe_i ?_ ?_
  refine fe_b (fe_157 (by assumption)) (fun _ _ _ => ?_)
  refine fe_b (fe_112 (by assumption)) (fun _ _ _ => ?_)
  exact fe_127_82 hR (by assumption)
  refine fe_b (hR _ _ _ _ (by assumption)) (fun _ _ _ => ?_)
  exact fe_127_82 hR (by assumption)
theorem fe_129_26 {F : wq_F} {v2 : Nat} {v3 : Nat} {v4 : Nat} (h : fc v F) : fe v (dk_129_26 F v2 v3 v4) := by
  unfold dk_129_26
  refine fe_b (fe_78 (by assumption)) (fun _ _ _ => ?_)
  refine fe_b (fe_162 (by assumption)) (fun _ _ _ => ?_)
  exact fe_r (by assumption)
theorem fe_129_12 {F : wq_F} {v1 : Nat} {v2 : Nat} {v3 : Nat} {v4 : Nat} {s0 : Nat} (h : fc v F) : fe v (dk_129_12 F v1 v2 v3 v4 s0) := by
  unfold dk_129_12
  refine fe_i ?_ ?_
  refine fe_i ?_ ?_
  refine fe_b (fe_162 (by assumption)) (fun _ _ _ => ?_)
  exact fe_r (by assumption)
  exact fe_129_26 (by assumption)
  exact fe_129_26 (by assumption)
theorem fe_129 {F : wq_F} {a0 : Nat} {a1 : Nat} {a2 : Nat} {a3 : Nat} (h : fc v F) : fe v (dk_129 F a0 a1 a2 a3) := by
  unfold dk_129
  refine fe_i ?_ ?_
  exact fe_129_12 (by assumption)
  exact fe_129_12 (by assumption)
theorem fe_128_80b {R : dk_Rt} {n : Nat} {r80 : wq_F → Nat → Nat → Nat → Nat → Nat → Nat → Nat → Nat → Option (Nat × wq_F)} {F : wq_F} {v1 : Nat} {v2 : Nat} {v3 : Nat} {v4 : Nat} {v5 : Nat} {v6 : Nat} {v7 : Nat} {v8 : Nat} (hR : ∀ m as K w, fc w K → fe w (R m as K)) (hr80 : ∀ K x0 x1 x2 x3 x4 x5 x6 x7, fc v K → fe v (r80 K x0 x1 x2 x3 x4 x5 x6 x7)) (h : fc v F) : fe v (dk_128_80b R n r80 F v1 v2 v3 v4 v5 v6 v7 v8) := by
  unfold dk_128_80b
  refine fe_i ?_ ?_
  refine fe_b (fe_78 (by assumption)) (fun _ _ _ => ?_)
  refine fe_l (fun _ => ?_)
  exact hr80 _ _ _ _ _ _ _ _ _ (by assumption)
  refine fe_b (fe_78 (by assumption)) (fun _ _ _ => ?_)
  refine fe_b (fe_78 (by assumption)) (fun _ _ _ => ?_)
  refine fe_b (fe_165 (by assumption)) (fun _ _ _ => ?_)
  refine fe_b (fe_110 (by assumption)) (fun _ _ _ => ?_)
  refine fe_l (fun _ => ?_)
  refine fe_b (fe_162 (by assumption)) (fun _ _ _ => ?_)
  refine fe_b (fe_167 (by assumption)) (fun _ _ _ => ?_)
  refine fe_b (hR _ _ _ _ (by assumption)) (fun _ _ _ => ?_)
  refine fe_b (fe_110 (by assumption)) (fun _ _ _ => ?_)
  refine fe_b (fe_113 (by assumption)) (fun _ _ _ => ?_)
  refine fe_b (fe_78 (by assumption)) (fun _ _ _ => ?_)
  refine fe_b (fe_120 (by assumption)) (fun _ _ _ => ?_)
  exact fe_r (by assumption)
theorem fe_128_80 {R : dk_Rt} {n : Nat} {g : Nat} {F : wq_F} {x0 : Nat} {x1 : Nat} {x2 : Nat} {x3 : Nat} {x4 : Nat} {x5 : Nat} {x6 : Nat} {x7 : Nat} (hR : ∀ m as K w, fc w K → fe w (R m as K)) (h : fc v F) : fe v (dk_128_80 R n g F x0 x1 x2 x3 x4 x5 x6 x7) := by
  induction g generalizing F x0 x1 x2 x3 x4 x5 x6 x7 with
  | zero => exact fe_n
  | succ g ih =>
    exact fe_128_80b hR (fun K x0 x1 x2 x3 x4 x5 x6 x7 h => by first | exact ih h | exact ih K x0 x1 x2 x3 x4 x5 x6 x7 h) h
theorem fe_128 {R : dk_Rt} {n : Nat} {F : wq_F} {a0 : Nat} {a1 : Nat} (hR : ∀ m as K w, fc w K → fe w (R m as K)) (h : fc v F) : fe v (dk_128 R n F a0 a1) := by
  unfold dk_128
  refine fe_b (fe_164 (by assumption)) (fun _ _ _ => ?_)
  refine fe_b (fe_84 (by assumption)) (fun _ _ _ => ?_)
  refine fe_l (fun _ => ?_)
  refine fe_b (fe_110 (by assumption)) (fun _ _ _ => ?_)
  refine fe_b (hR _ _ _ _ (by assumption)) (fun _ _ _ => ?_)
  refine fe_b (fe_129 (by assumption)) (fun _ _ _ => ?_)
  refine fe_b (fe_78 (by assumption)) (fun _ _ _ => ?_)
  exact fe_128_80 hR (by assumption)
theorem fe_130 {R : dk_Rt} {n : Nat} {F : wq_F} {a0 : Nat} (hR : ∀ m as K w, fc w K → fe w (R m as K)) (h : fc v F) : fe v (dk_130 R n F a0) := by
  unfold dk_130
  refine fe_b (fe_84 (by assumption)) (fun _ _ _ => ?_)
  refine fe_b (fe_77 (by assumption)) (fun _ _ _ => ?_)
  refine fe_b (fe_111 (by assumption)) (fun _ _ _ => ?_)
  refine fe_i ?_ ?_
  refine fe_b (fe_124 (by assumption)) (fun _ _ _ => ?_)
  refine fe_b (fe_77 (by assumption)) (fun _ _ _ => ?_)
  refine fe_b (fe_125 (by assumption)) (fun _ _ _ => ?_)
  refine fe_l (fun _ => ?_)
  refine fe_b (fe_111 (by assumption)) (fun _ _ _ => ?_)
  refine fe_i ?_ ?_
  refine fe_b (fe_112 (by assumption)) (fun _ _ _ => ?_)
  refine fe_b (fe_167 (by assumption)) (fun _ _ _ => ?_)
  exact fe_r (by assumption)
  refine fe_b (hR _ _ _ _ (by assumption)) (fun _ _ _ => ?_)
  refine fe_b (fe_129 (by assumption)) (fun _ _ _ => ?_)
  refine fe_b (fe_167 (by assumption)) (fun _ _ _ => ?_)
  exact fe_r (by assumption)
  refine fe_b (fe_124 (by assumption)) (fun _ _ _ => ?_)
  refine fe_b (fe_77 (by assumption)) (fun _ _ _ => ?_)
  refine fe_b (fe_112 (by assumption)) (fun _ _ _ => ?_)
  refine fe_b (fe_167 (by assumption)) (fun _ _ _ => ?_)
  refine fe_b (hR _ _ _ _ (by assumption)) (fun _ _ _ => ?_)
  refine fe_b (fe_112 (by assumption)) (fun _ _ _ => ?_)
  exact fe_r (by assumption)
theorem fe_169_200 {n : Nat} {F : wq_F} {v3 : Nat} {v4 : Nat} {s0 : Nat} (h : fc v F) : fe v (dk_169_200 n F v3 v4 s0) := by
  unfold dk_169_200
  refine fe_u (by unfold fcx; omega) (by assumption) (fun _ _ => ?_)
  refine fe_i ?_ ?_
  refine fe_u (by unfold fcx; omega) (by assumption) (fun _ _ => ?_)
  exact fe_r (by assumption)
  refine fe_u (by unfold fcx; omega) (by assumption) (fun _ _ => ?_)
  exact fe_r (by assumption)
theorem fe_169_148 {n : Nat} {r82 : wq_F → Nat → Nat → Nat → Nat → Option (Nat × wq_F)} {F : wq_F} {v1 : Nat} {v5 : Nat} {v6 : Nat} {v7 : Nat} {s0 : Nat} {s1 : Nat} (hr82 : ∀ K x0 x1 x2 x3, fc v K → fe v (r82 K x0 x1 x2 x3)) (h : fc v F) : fe v (dk_169_148 n r82 F v1 v5 v6 v7 s0 s1) := by
  unfold dk_169_148
  refine fe_g ?_
  refine fe_u (by unfold fcx; omega) (by assumption) (fun _ _ => ?_)
  refine fe_l (fun _ => ?_)
  refine fe_g ?_
  refine fe_u (by unfold fcx; omega) (by assumption) (fun _ _ => ?_)
  refine fe_g ?_
  refine fe_l (fun _ => ?_)
  refine fe_g ?_
  refine fe_u (by unfold fcx; omega) (by assumption) (fun _ _ => ?_)
  refine fe_l (fun _ => ?_)
  exact hr82 _ _ _ _ _ (by assumption)
theorem fe_169_82b {n : Nat} {r82 : wq_F → Nat → Nat → Nat → Nat → Option (Nat × wq_F)} {F : wq_F} {v1 : Nat} {v3 : Nat} {v4 : Nat} {v5 : Nat} (hr82 : ∀ K x0 x1 x2 x3, fc v K → fe v (r82 K x0 x1 x2 x3)) (h : fc v F) : fe v (dk_169_82b n r82 F v1 v3 v4 v5) := by
  unfold dk_169_82b
  refine fe_i ?_ ?_
  refine fe_i ?_ ?_
  exact fe_169_200 (by assumption)
  exact fe_169_200 (by assumption)
  refine fe_g ?_
  refine fe_g ?_
  refine fe_i ?_ ?_
  refine fe_l (fun _ => ?_)
  refine fe_i ?_ ?_
  exact fe_169_148 hr82 (by assumption)
  exact fe_169_148 hr82 (by assumption)
  exact fe_r (by assumption)
theorem fe_169_82 {n : Nat} {g : Nat} {F : wq_F} {x0 : Nat} {x1 : Nat} {x2 : Nat} {x3 : Nat} (h : fc v F) : fe v (dk_169_82 n g F x0 x1 x2 x3) := by
  induction g generalizing F x0 x1 x2 x3 with
  | zero => exact fe_n
  | succ g ih =>
    exact fe_169_82b (fun K x0 x1 x2 x3 h => by first | exact ih h | exact ih K x0 x1 x2 x3 h) h
theorem fe_169_60 {n : Nat} {F : wq_F} {v1 : Nat} {v2 : Nat} {v3 : Nat} {v4 : Nat} (h : fc v F) : fe v (dk_169_60 n F v1 v2 v3 v4) := by
  unfold dk_169_60
  refine fe_i ?_ ?_
  refine fe_u (by unfold fcx; omega) (by assumption) (fun _ _ => ?_)
  refine fe_u (by unfold fcx; omega) (by assumption) (fun _ _ => ?_)
  exact fe_r (by assumption)
  exact fe_169_82 (by assumption)
theorem fe_170_29b {n : Nat} {r29 : wq_F → Nat → Nat → Nat → Option (Nat × wq_F)} {F : wq_F} {v1 : Nat} {v2 : Nat} {v4 : Nat} (hr29 : ∀ K x0 x1 x2, fc v K → fe v (r29 K x0 x1 x2)) (h : fc v F) : fe v (dk_170_29b n r29 F v1 v2 v4) := by
  unfold dk_170_29b
  refine fe_g ?_
  refine fe_i ?_ ?_
  exact fe_r (by assumption)
  refine fe_g ?_
  refine fe_i ?_ ?_
  refine fe_g ?_
  refine fe_i ?_ ?_
  refine fe_l (fun _ => ?_)
  exact hr29 _ _ _ _ (by assumption)
  refine fe_g ?_
  exact fe_r (by assumption)
  refine fe_l (fun _ => ?_)
  exact hr29 _ _ _ _ (by assumption)
theorem fe_170_29 {n : Nat} {g : Nat} {F : wq_F} {x0 : Nat} {x1 : Nat} {x2 : Nat} (h : fc v F) : fe v (dk_170_29 n g F x0 x1 x2) := by
  induction g generalizing F x0 x1 x2 with
  | zero => exact fe_n
  | succ g ih =>
    exact fe_170_29b (fun K x0 x1 x2 h => by first | exact ih h | exact ih K x0 x1 x2 h) h
theorem fe_170 {n : Nat} {F : wq_F} {a0 : Nat} {a1 : Nat} (h : fc v F) : fe v (dk_170 n F a0 a1) := by
  unfold dk_170
  refine fe_i ?_ ?_
  refine fe_l (fun _ => ?_)
  exact fe_170_29 (by assumption)
  refine fe_g ?_
  refine fe_l (fun _ => ?_)
  exact fe_170_29 (by assumption)
theorem fe_171_2b {n : Nat} {r2 : wq_F → Nat → Nat → Nat → Option (Nat × wq_F)} {F : wq_F} {v1 : Nat} {v2 : Nat} {v3 : Nat} (hr2 : ∀ K x0 x1 x2, fc v K → fe v (r2 K x0 x1 x2)) (h : fc v F) : fe v (dk_171_2b n r2 F v1 v2 v3) := by
  unfold dk_171_2b
  refine fe_g ?_
  refine fe_i ?_ ?_
  refine fe_l (fun _ => ?_)
  refine fe_g ?_
  refine fe_i ?_ ?_
  exact fe_r (by assumption)
  refine fe_l (fun _ => ?_)
  exact hr2 _ _ _ _ (by assumption)
  exact fe_r (by assumption)
theorem fe_171_2 {n : Nat} {g : Nat} {F : wq_F} {x0 : Nat} {x1 : Nat} {x2 : Nat} (h : fc v F) : fe v (dk_171_2 n g F x0 x1 x2) := by
  induction g generalizing F x0 x1 x2 with
  | zero => exact fe_n
  | succ g ih =>
    exact fe_171_2b (fun K x0 x1 x2 h => by first | exact ih h | exact ih K x0 x1 x2 h) h
theorem fe_171 {n : Nat} {F : wq_F} {a0 : Nat} {a1 : Nat} (h : fc v F) : fe v (dk_171 n F a0 a1) := by
  unfold dk_171
  exact fe_171_2 (by assumption)
theorem fe_169_40 {n : Nat} {r10 : wq_F → Nat → Nat → Nat → Nat → Option (Nat × wq_F)} {F : wq_F} {v1 : Nat} {v2 : Nat} {v3 : Nat} {s0 : Nat} (hr10 : ∀ K x0 x1 x2 x3, fc v K → fe v (r10 K x0 x1 x2 x3)) (h : fc v F) : fe v (dk_169_40 n r10 F v1 v2 v3 s0) := by
  unfold dk_169_40
  refine fe_i ?_ ?_
  refine fe_i ?_ ?_
  refine fe_l (fun _ => ?_)
  exact hr10 _ _ _ _ _ (by assumption)
  exact fe_169_60 (by assumption)
  exact fe_169_60 (by assumption)
theorem fe_169_10b {n : Nat} {r10 : wq_F → Nat → Nat → Nat → Nat → Option (Nat × wq_F)} {F : wq_F} {v1 : Nat} {v2 : Nat} {v3 : Nat} {v4 : Nat} (hr10 : ∀ K x0 x1 x2 x3, fc v K → fe v (r10 K x0 x1 x2 x3)) (h : fc v F) : fe v (dk_169_10b n r10 F v1 v2 v3 v4) := by
  unfold dk_169_10b
  refine fe_i ?_ ?_
  exact fe_169_60 (by assumption)
  refine fe_b (fe_170 (by assumption)) (fun _ _ _ => ?_)
  refine fe_i ?_ ?_
  refine fe_g ?_
  refine fe_b (fe_171 (by assumption)) (fun _ _ _ => ?_)
  exact fe_169_40 hr10 (by assumption)
  exact fe_169_40 hr10 (by assumption)
theorem fe_169_10 {n : Nat} {g : Nat} {F : wq_F} {x0 : Nat} {x1 : Nat} {x2 : Nat} {x3 : Nat} (h : fc v F) : fe v (dk_169_10 n g F x0 x1 x2 x3) := by
  induction g generalizing F x0 x1 x2 x3 with
  | zero => exact fe_n
  | succ g ih =>
    exact fe_169_10b (fun K x0 x1 x2 x3 h => by first | exact ih h | exact ih K x0 x1 x2 x3 h) h
theorem fe_169 {n : Nat} {F : wq_F} {a0 : Nat} (h : fc v F) : fe v (dk_169 n F a0) := by
  unfold dk_169
  exact fe_169_10 (by assumption)
theorem fe_133 {n : Nat} {F : wq_F} (h : fc v F) : fe v (dk_133 n F) := by
  unfold dk_133
  refine fe_i ?_ ?_
  refine fe_b (fe_169 (by assumption)) (fun _ _ _ => ?_)
  refine fe_i ?_ ?_
  refine fe_b (fe_109 (by assumption)) (fun _ _ _ => ?_)
  exact fe_r (by assumption)
  refine fe_u (by unfold fcx; omega) (by assumption) (fun _ _ => ?_)
  refine fe_u (by unfold fcx; omega) (by assumption) (fun _ _ => ?_)
  refine fe_b (fe_77 (by assumption)) (fun _ _ _ => ?_)
  exact fe_r (by assumption)
  refine fe_b (fe_109 (by assumption)) (fun _ _ _ => ?_)
  exact fe_r (by assumption)
theorem fe_143 {F : wq_F} {a0 : Nat} {a1 : Nat} {a2 : Nat} (h : fc v F) : fe v (dk_143 F a0 a1 a2) := by
  unfold dk_143
  refine fe_i ?_ ?_
  refine fe_b (fe_112 (by assumption)) (fun _ _ _ => ?_)
  exact fe_r (by assumption)
  refine fe_b (fe_112 (by assumption)) (fun _ _ _ => ?_)
  exact fe_r (by assumption)
theorem fe_132 {F : wq_F} {a0 : Nat} (h : fc v F) : fe v (dk_132 F a0) := by
  unfold dk_132
  refine fe_b (fe_84 (by assumption)) (fun _ _ _ => ?_)
  refine fe_i ?_ ?_
  exact fe_r (by assumption)
  refine fe_b (fe_113 (by assumption)) (fun _ _ _ => ?_)
  exact fe_r (by assumption)
theorem fe_131_73 {R : dk_Rt} {n : Nat} {F : wq_F} {v1 : Nat} {v2 : Nat} {v3 : Nat} (hR : ∀ m as K w, fc w K → fe w (R m as K)) (h : fc v F) : fe v (dk_131_73 R n F v1 v2 v3) := by
  unfold dk_131_73
  refine fe_b (hR _ _ _ _ (by assumption)) (fun _ _ _ => ?_)
  refine fe_b (fe_143 (by assumption)) (fun _ _ _ => ?_)
  refine fe_b (fe_132 (by assumption)) (fun _ _ _ => ?_)
  exact fe_r (by assumption)
theorem fe_136 {F : wq_F} (h : fc v F) : fe v (dk_136 F) := by
  unfold dk_136
  refine fe_i ?_ ?_
  refine fe_b (fe_112 (by assumption)) (fun _ _ _ => ?_)
  refine fe_u (by unfold fcx; omega) (by assumption) (fun _ _ => ?_)
  exact fe_r (by assumption)
  refine fe_i ?_ ?_
  refine fe_u (by unfold fcx; omega) (by assumption) (fun _ _ => ?_)
  exact fe_r (by assumption)
  refine fe_b (fe_112 (by assumption)) (fun _ _ _ => ?_)
  refine fe_u (by unfold fcx; omega) (by assumption) (fun _ _ => ?_)
  exact fe_r (by assumption)
theorem fe_135 {F : wq_F} (h : fc v F) : fe v (dk_135 F) := by
  unfold dk_135
  refine fe_i ?_ ?_
  refine fe_b (fe_112 (by assumption)) (fun _ _ _ => ?_)
  exact fe_r (by assumption)
  refine fe_b (fe_109 (by assumption)) (fun _ _ _ => ?_)
  exact fe_r (by assumption)
theorem fe_134 {n : Nat} {F : wq_F} (h : fc v F) : fe v (dk_134 n F) := by
  unfold dk_134
  refine fe_b (fe_136 (by assumption)) (fun _ _ _ => ?_)
  refine fe_b (fe_77 (by assumption)) (fun _ _ _ => ?_)
  refine fe_b (fe_135 (by assumption)) (fun _ _ _ => ?_)
  refine fe_b (fe_77 (by assumption)) (fun _ _ _ => ?_)
  refine fe_u (by unfold fcx; omega) (by assumption) (fun _ _ => ?_)
  refine fe_b (fe_84 (by assumption)) (fun _ _ _ => ?_)
  refine fe_l (fun _ => ?_)
  refine fe_u (by unfold fcx; omega) (by assumption) (fun _ _ => ?_)
  refine fe_u (by unfold fcx; omega) (by assumption) (fun _ _ => ?_)
  exact fe_r (by assumption)
theorem fe_131_47 {R : dk_Rt} {n : Nat} {F : wq_F} {v1 : Nat} {v2 : Nat} (hR : ∀ m as K w, fc w K → fe w (R m as K)) (h : fc v F) : fe v (dk_131_47 R n F v1 v2) := by
  unfold dk_131_47
  refine fe_i ?_ ?_
  refine fe_i ?_ ?_
  exact fe_131_73 hR (by assumption)
  refine fe_b (fe_134 (by assumption)) (fun _ _ _ => ?_)
  exact fe_131_73 hR (by assumption)
  refine fe_i ?_ ?_
  exact fe_131_73 hR (by assumption)
  refine fe_b (fe_134 (by assumption)) (fun _ _ _ => ?_)
  exact fe_131_73 hR (by assumption)
theorem fe_131_18b {R : dk_Rt} {n : Nat} {r18 : wq_F → Nat → Nat → Nat → Option (Nat × wq_F)} {F : wq_F} {v1 : Nat} {v2 : Nat} {v3 : Nat} (hR : ∀ m as K w, fc w K → fe w (R m as K)) (hr18 : ∀ K x0 x1 x2, fc v K → fe v (r18 K x0 x1 x2)) (h : fc v F) : fe v (dk_131_18b R n r18 F v1 v2 v3) := by
  unfold dk_131_18b
  refine fe_i ?_ ?_
  exact fe_131_47 hR (by assumption)
  refine fe_i ?_ ?_
  refine fe_b (fe_134 (by assumption)) (fun _ _ _ => ?_)
  refine fe_l (fun _ => ?_)
  exact hr18 _ _ _ _ (by assumption)
  exact fe_131_47 hR (by assumption)
theorem fe_131_18 {R : dk_Rt} {n : Nat} {g : Nat} {F : wq_F} {x0 : Nat} {x1 : Nat} {x2 : Nat} (hR : ∀ m as K w, fc w K → fe w (R m as K)) (h : fc v F) : fe v (dk_131_18 R n g F x0 x1 x2) := by
  induction g generalizing F x0 x1 x2 with
  | zero => exact fe_n
  | succ g ih =>
    exact fe_131_18b hR (fun K x0 x1 x2 h => by first | exact ih h | exact ih K x0 x1 x2 h) h
theorem fe_131 {R : dk_Rt} {n : Nat} {F : wq_F} {a0 : Nat} (hR : ∀ m as K w, fc w K → fe w (R m as K)) (h : fc v F) : fe v (dk_131 R n F a0) := by
  unfold dk_131
  refine fe_b (fe_84 (by assumption)) (fun _ _ _ => ?_)
  refine fe_b (fe_77 (by assumption)) (fun _ _ _ => ?_)
  refine fe_b (fe_133 (by assumption)) (fun _ _ _ => ?_)
  exact fe_131_18 hR (by assumption)
theorem fe_137_45b {R : dk_Rt} {n : Nat} {r45 : wq_F → Nat → Nat → Option (Nat × wq_F)} {F : wq_F} {v1 : Nat} {v2 : Nat} (hR : ∀ m as K w, fc w K → fe w (R m as K)) (hr45 : ∀ K x0 x1, fc v K → fe v (r45 K x0 x1)) (h : fc v F) : fe v (dk_137_45b R n r45 F v1 v2) := by
  unfold dk_137_45b
  refine fe_i ?_ ?_
  exact fe_r (by assumption)
  refine fe_b (hR _ _ _ _ (by assumption)) (fun _ _ _ => ?_)
  refine fe_i ?_ ?_
  exact fe_r (by assumption)
  refine fe_l (fun _ => ?_)
  exact hr45 _ _ _ (by assumption)
theorem fe_137_45 {R : dk_Rt} {n : Nat} {g : Nat} {F : wq_F} {x0 : Nat} {x1 : Nat} (hR : ∀ m as K w, fc w K → fe w (R m as K)) (h : fc v F) : fe v (dk_137_45 R n g F x0 x1) := by
  induction g generalizing F x0 x1 with
  | zero => exact fe_n
  | succ g ih =>
    exact fe_137_45b hR (fun K x0 x1 h => by first | exact ih h | exact ih K x0 x1 h) h
theorem fe_137 {R : dk_Rt} {n : Nat} {F : wq_F} {a0 : Nat} (hR : ∀ m as K w, fc w K → fe w (R m as K)) (h : fc v F) : fe v (dk_137 R n F a0) := by
  unfold dk_137
  refine fe_i ?_ ?_
  refine fe_b (fe_77 (by assumption)) (fun _ _ _ => ?_)
  refine fe_b (hR _ _ _ _ (by assumption)) (fun _ _ _ => ?_)
  refine fe_b (fe_110 (by assumption)) (fun _ _ _ => ?_)
  refine fe_u (by unfold fcx; omega) (by assumption) (fun _ _ => ?_)
  exact fe_137_45 hR (by assumption)
  refine fe_b (fe_133 (by assumption)) (fun _ _ _ => ?_)
  exact fe_137_45 hR (by assumption)
theorem fe_138 {R : dk_Rt} {n : Nat} {F : wq_F} {a0 : Nat} (hR : ∀ m as K w, fc w K → fe w (R m as K)) (h : fc v F) : fe v (dk_138 R n F a0) := by
  unfold dk_138
  refine fe_l (fun _ => ?_)
  refine fe_i ?_ ?_
  refine fe_b (fe_136 (by assumption)) (fun _ _ _ => ?_)
  refine fe_b (fe_84 (by assumption)) (fun _ _ _ => ?_)
  refine fe_l (fun _ => ?_)
  refine fe_b (hR _ _ _ _ (by assumption)) (fun _ _ _ => ?_)
  exact fe_r (by assumption)
  refine fe_i ?_ ?_
  refine fe_b (fe_136 (by assumption)) (fun _ _ _ => ?_)
  refine fe_b (fe_84 (by assumption)) (fun _ _ _ => ?_)
  refine fe_l (fun _ => ?_)
  refine fe_b (hR _ _ _ _ (by assumption)) (fun _ _ _ => ?_)
  exact fe_r (by assumption)
  refine fe_i ?_ ?_
  refine fe_b (fe_136 (by assumption)) (fun _ _ _ => ?_)
  refine fe_b (fe_84 (by assumption)) (fun _ _ _ => ?_)
  refine fe_l (fun _ => ?_)
  refine fe_b (hR _ _ _ _ (by assumption)) (fun _ _ _ => ?_)
  exact fe_r (by assumption)
  refine fe_i ?_ ?_
  refine fe_b (fe_136 (by assumption)) (fun _ _ _ => ?_)
  refine fe_b (fe_77 (by assumption)) (fun _ _ _ => ?_)
  refine fe_b (hR _ _ _ _ (by assumption)) (fun _ _ _ => ?_)
  refine fe_b (fe_110 (by assumption)) (fun _ _ _ => ?_)
  refine fe_u (by unfold fcx; omega) (by assumption) (fun _ _ => ?_)
  refine fe_b (fe_84 (by assumption)) (fun _ _ _ => ?_)
  refine fe_l (fun _ => ?_)
  refine fe_u (by unfold fcx; omega) (by assumption) (fun _ _ => ?_)
  refine fe_u (by unfold fcx; omega) (by assumption) (fun _ _ => ?_)
  exact fe_r (by assumption)
  refine fe_i ?_ ?_
  refine fe_b (fe_136 (by assumption)) (fun _ _ _ => ?_)
  refine fe_b (fe_77 (by assumption)) (fun _ _ _ => ?_)
  refine fe_b (fe_112 (by assumption)) (fun _ _ _ => ?_)
  refine fe_b (fe_135 (by assumption)) (fun _ _ _ => ?_)
  refine fe_b (fe_77 (by assumption)) (fun _ _ _ => ?_)
  refine fe_b (fe_112 (by assumption)) (fun _ _ _ => ?_)
  refine fe_b (fe_112 (by assumption)) (fun _ _ _ => ?_)
  refine fe_b (fe_84 (by assumption)) (fun _ _ _ => ?_)
  refine fe_l (fun _ => ?_)
  refine fe_b (hR _ _ _ _ (by assumption)) (fun _ _ _ => ?_)
  exact fe_r (by assumption)
  refine fe_i ?_ ?_
  refine fe_b (fe_134 (by assumption)) (fun _ _ _ => ?_)
  exact fe_r (by assumption)
  exact fe_r (by assumption)
theorem fe_139_93 {R : dk_Rt} {n : Nat} {F : wq_F} {v1 : Nat} {v3 : Nat} (hR : ∀ m as K w, fc w K → fe w (R m as K)) (h : fc v F) : fe v (dk_139_93 R n F v1 v3) := by
  unfold dk_139_93
  refine fe_b (fe_78 (by assumption)) (fun _ _ _ => ?_)
  refine fe_b (fe_162 (by assumption)) (fun _ _ _ => ?_)
  refine fe_u (by unfold fcx; omega) (by assumption) (fun _ _ => ?_)
  exact fe_r (by assumption)
theorem fe_139 {R : dk_Rt} {n : Nat} {F : wq_F} {a0 : Nat} {a1 : Nat} (hR : ∀ m as K w, fc w K → fe w (R m as K)) (h : fc v F) : fe v (dk_139 R n F a0 a1) := by
  unfold dk_139
  refine fe_i ?_ ?_
  refine fe_b (fe_112 (by assumption)) (fun _ _ _ => ?_)
  refine fe_b (fe_77 (by assumption)) (fun _ _ _ => ?_)
  exact fe_139_93 hR (by assumption)
  refine fe_i ?_ ?_
  refine fe_b (hR _ _ _ _ (by assumption)) (fun _ _ _ => ?_)
  exact fe_139_93 hR (by assumption)
  refine fe_b (fe_110 (by assumption)) (fun _ _ _ => ?_)
  refine fe_i ?_ ?_
  refine fe_b (fe_110 (by assumption)) (fun _ _ _ => ?_)
  exact fe_139_93 hR (by assumption)
  refine fe_b (hR _ _ _ _ (by assumption)) (fun _ _ _ => ?_)
  refine fe_b (fe_110 (by assumption)) (fun _ _ _ => ?_)
  exact fe_139_93 hR (by assumption)
theorem fe_158 {F : wq_F} {a0 : Nat} (h : fc v F) : fe v (dk_158 F a0) := by
  unfold dk_158
  refine fe_i ?_ ?_
  refine fe_l (fun _ => ?_)
  refine fe_g ?_
  refine fe_u (by unfold fcx; omega) (by assumption) (fun _ _ => ?_)
  exact fe_r (by assumption)
  exact fe_r (by assumption)
theorem fe_140 {R : dk_Rt} {n : Nat} {F : wq_F} {a0 : Nat} (hR : ∀ m as K w, fc w K → fe w (R m as K)) (h : fc v F) : fe v (dk_140 R n F a0) := by
  unfold dk_140
  refine fe_b (fe_84 (by assumption)) (fun _ _ _ => ?_)
  refine fe_b (hR _ _ _ _ (by assumption)) (fun _ _ _ => ?_)
  refine fe_i ?_ ?_
  refine fe_b (fe_158 (by assumption)) (fun _ _ _ => ?_)
  refine fe_b (fe_162 (by assumption)) (fun _ _ _ => ?_)
  exact fe_r (by assumption)
  refine fe_b (hR _ _ _ _ (by assumption)) (fun _ _ _ => ?_)
  exact fe_r (by assumption)
theorem fe_142_29 {F : wq_F} {s0 : Nat} (h : fc v F) : fe v (dk_142_29 F s0) := by
  unfold dk_142_29
  refine fe_i ?_ ?_
  refine fe_b (fe_109 (by assumption)) (fun _ _ _ => ?_)
  exact fe_r (by assumption)
  refine fe_i ?_ ?_
  refine fe_b (fe_109 (by assumption)) (fun _ _ _ => ?_)
  exact fe_r (by assumption)
  refine fe_i ?_ ?_
  refine fe_b (fe_109 (by assumption)) (fun _ _ _ => ?_)
  exact fe_r (by assumption)
  refine fe_g ?_
  refine fe_u (by unfold fcx; omega) (by assumption) (fun _ _ => ?_)
  refine fe_l (fun _ => ?_)
  refine fe_g ?_
  refine fe_u (by unfold fcx; omega) (by assumption) (fun _ _ => ?_)
  refine fe_l (fun _ => ?_)
  refine fe_g ?_
  refine fe_u (by unfold fcx; omega) (by assumption) (fun _ _ => ?_)
  refine fe_l (fun _ => ?_)
  refine fe_u (by unfold fcx; omega) (by assumption) (fun _ _ => ?_)
  exact fe_r (by assumption)
theorem fe_142 {F : wq_F} (h : fc v F) : fe v (dk_142 F) := by
  unfold dk_142
  refine fe_i ?_ ?_
  exact fe_142_29 (by assumption)
  refine fe_i ?_ ?_
  exact fe_142_29 (by assumption)
  exact fe_142_29 (by assumption)
theorem fe_141_155b {R : dk_Rt} {n : Nat} {r155 : wq_F → Nat → Nat → Nat → Option (Nat × wq_F)} {F : wq_F} {v2 : Nat} {v3 : Nat} {v7 : Nat} (hR : ∀ m as K w, fc w K → fe w (R m as K)) (hr155 : ∀ K x0 x1 x2, fc v K → fe v (r155 K x0 x1 x2)) (h : fc v F) : fe v (dk_141_155b R n r155 F v2 v3 v7) := by
  unfold dk_141_155b
  refine fe_i ?_ ?_
  refine fe_u (by unfold fcx; omega) (by assumption) (fun _ _ => ?_)
  refine fe_b (fe_132 (by assumption)) (fun _ _ _ => ?_)
  exact fe_r (by assumption)
  refine fe_g ?_
  refine fe_g ?_
  refine fe_g ?_
  refine fe_b (fe_143 (by assumption)) (fun _ _ _ => ?_)
  refine fe_l (fun _ => ?_)
  exact hr155 _ _ _ _ (by assumption)
theorem fe_141_155 {R : dk_Rt} {n : Nat} {g : Nat} {F : wq_F} {x0 : Nat} {x1 : Nat} {x2 : Nat} (hR : ∀ m as K w, fc w K → fe w (R m as K)) (h : fc v F) : fe v (dk_141_155 R n g F x0 x1 x2) := by
  induction g generalizing F x0 x1 x2 with
  | zero => exact fe_n
  | succ g ih =>
    exact fe_141_155b hR (fun K x0 x1 x2 h => by first | exact ih h | exact ih K x0 x1 x2 h) h
theorem fe_141_96 {R : dk_Rt} {n : Nat} {F : wq_F} {v1 : Nat} {v2 : Nat} {v3 : Nat} (hR : ∀ m as K w, fc w K → fe w (R m as K)) (h : fc v F) : fe v (dk_141_96 R n F v1 v2 v3) := by
  unfold dk_141_96
  refine fe_l (fun _ => ?_)
  refine fe_b (fe_84 (by assumption)) (fun _ _ _ => ?_)
  refine fe_b (fe_110 (by assumption)) (fun _ _ _ => ?_)
  refine fe_b (hR _ _ _ _ (by assumption)) (fun _ _ _ => ?_)
  refine fe_b (fe_129 (by assumption)) (fun _ _ _ => ?_)
  refine fe_l (fun _ => ?_)
  exact fe_141_155 hR (by assumption)
theorem fe_141_66 {R : dk_Rt} {n : Nat} {r12 : wq_F → Nat → Nat → Nat → Nat → Option (Nat × wq_F)} {F : wq_F} {v1 : Nat} {v2 : Nat} {v3 : Nat} {v4 : Nat} (hR : ∀ m as K w, fc w K → fe w (R m as K)) (hr12 : ∀ K x0 x1 x2 x3, fc v K → fe v (r12 K x0 x1 x2 x3)) (h : fc v F) : fe v (dk_141_66 R n r12 F v1 v2 v3 v4) := by
  unfold dk_141_66
  refine fe_i ?_ ?_
  refine fe_b (fe_109 (by assumption)) (fun _ _ _ => ?_)
  refine fe_l (fun _ => ?_)
  exact hr12 _ _ _ _ _ (by assumption)
  refine fe_b (hR _ _ _ _ (by assumption)) (fun _ _ _ => ?_)
  refine fe_b (fe_142 (by assumption)) (fun _ _ _ => ?_)
  refine fe_l (fun _ => ?_)
  exact hr12 _ _ _ _ _ (by assumption)
theorem fe_141_12b {R : dk_Rt} {n : Nat} {r12 : wq_F → Nat → Nat → Nat → Nat → Option (Nat × wq_F)} {F : wq_F} {v1 : Nat} {v2 : Nat} {v3 : Nat} {v4 : Nat} (hR : ∀ m as K w, fc w K → fe w (R m as K)) (hr12 : ∀ K x0 x1 x2 x3, fc v K → fe v (r12 K x0 x1 x2 x3)) (h : fc v F) : fe v (dk_141_12b R n r12 F v1 v2 v3 v4) := by
  unfold dk_141_12b
  refine fe_i ?_ ?_
  exact fe_141_96 hR (by assumption)
  refine fe_i ?_ ?_
  refine fe_b (fe_77 (by assumption)) (fun _ _ _ => ?_)
  refine fe_i ?_ ?_
  exact fe_141_66 hR hr12 (by assumption)
  refine fe_i ?_ ?_
  exact fe_141_66 hR hr12 (by assumption)
  refine fe_b (fe_109 (by assumption)) (fun _ _ _ => ?_)
  refine fe_l (fun _ => ?_)
  exact hr12 _ _ _ _ _ (by assumption)
  exact fe_141_96 hR (by assumption)
theorem fe_141_12 {R : dk_Rt} {n : Nat} {g : Nat} {F : wq_F} {x0 : Nat} {x1 : Nat} {x2 : Nat} {x3 : Nat} (hR : ∀ m as K w, fc w K → fe w (R m as K)) (h : fc v F) : fe v (dk_141_12 R n g F x0 x1 x2 x3) := by
  induction g generalizing F x0 x1 x2 x3 with
  | zero => exact fe_n
  | succ g ih =>
    exact fe_141_12b hR (fun K x0 x1 x2 x3 h => by first | exact ih h | exact ih K x0 x1 x2 x3 h) h
theorem fe_141 {R : dk_Rt} {n : Nat} {F : wq_F} {a0 : Nat} {a1 : Nat} (hR : ∀ m as K w, fc w K → fe w (R m as K)) (h : fc v F) : fe v (dk_141 R n F a0 a1) := by
  unfold dk_141
  refine fe_b (fe_142 (by assumption)) (fun _ _ _ => ?_)
  exact fe_141_12 hR (by assumption)
theorem fe_144_70 {R : dk_Rt} {n : Nat} {F : wq_F} {v2 : Nat} {v3 : Nat} (hR : ∀ m as K w, fc w K → fe w (R m as K)) (h : fc v F) : fe v (dk_144_70 R n F v2 v3) := by
  unfold dk_144_70
  refine fe_i ?_ ?_
  exact fe_r (by assumption)
  refine fe_l (fun _ => ?_)
  exact fe_r (by assumption)
theorem fe_144_30 {R : dk_Rt} {n : Nat} {r4 : wq_F → Nat → Nat → Option (Nat × wq_F)} {F : wq_F} {v1 : Nat} {v3 : Nat} (hR : ∀ m as K w, fc w K → fe w (R m as K)) (hr4 : ∀ K x0 x1, fc v K → fe v (r4 K x0 x1)) (h : fc v F) : fe v (dk_144_30 R n r4 F v1 v3) := by
  unfold dk_144_30
  refine fe_b (hR _ _ _ _ (by assumption)) (fun _ _ _ => ?_)
  refine fe_l (fun _ => ?_)
  refine fe_i ?_ ?_
  refine fe_i ?_ ?_
  exact fe_144_70 hR (by assumption)
  refine fe_b (fe_158 (by assumption)) (fun _ _ _ => ?_)
  exact fe_144_70 hR (by assumption)
  refine fe_i ?_ ?_
  exact hr4 _ _ _ (by assumption)
  refine fe_i ?_ ?_
  exact fe_144_70 hR (by assumption)
  refine fe_b (fe_158 (by assumption)) (fun _ _ _ => ?_)
  exact fe_144_70 hR (by assumption)
theorem fe_144_12 {R : dk_Rt} {n : Nat} {r4 : wq_F → Nat → Nat → Option (Nat × wq_F)} {F : wq_F} {v1 : Nat} {v3 : Nat} (hR : ∀ m as K w, fc w K → fe w (R m as K)) (hr4 : ∀ K x0 x1, fc v K → fe v (r4 K x0 x1)) (h : fc v F) : fe v (dk_144_12 R n r4 F v1 v3) := by
  unfold dk_144_12
  refine fe_i ?_ ?_
  refine fe_b (fe_114 (by assumption)) (fun _ _ _ => ?_)
  refine fe_i ?_ ?_
  exact fe_144_30 hR hr4 (by assumption)
  refine fe_b (fe_109 (by assumption)) (fun _ _ _ => ?_)
  exact fe_144_30 hR hr4 (by assumption)
  exact fe_144_30 hR hr4 (by assumption)
theorem fe_144_4b {R : dk_Rt} {n : Nat} {r4 : wq_F → Nat → Nat → Option (Nat × wq_F)} {F : wq_F} {v1 : Nat} {v3 : Nat} (hR : ∀ m as K w, fc w K → fe w (R m as K)) (hr4 : ∀ K x0 x1, fc v K → fe v (r4 K x0 x1)) (h : fc v F) : fe v (dk_144_4b R n r4 F v1 v3) := by
  unfold dk_144_4b
  refine fe_i ?_ ?_
  refine fe_b (fe_77 (by assumption)) (fun _ _ _ => ?_)
  exact fe_144_12 hR hr4 (by assumption)
  exact fe_144_12 hR hr4 (by assumption)
theorem fe_144_4 {R : dk_Rt} {n : Nat} {g : Nat} {F : wq_F} {x0 : Nat} {x1 : Nat} (hR : ∀ m as K w, fc w K → fe w (R m as K)) (h : fc v F) : fe v (dk_144_4 R n g F x0 x1) := by
  induction g generalizing F x0 x1 with
  | zero => exact fe_n
  | succ g ih =>
    exact fe_144_4b hR (fun K x0 x1 h => by first | exact ih h | exact ih K x0 x1 h) h
theorem fe_144 {R : dk_Rt} {n : Nat} {F : wq_F} {a0 : Nat} (hR : ∀ m as K w, fc w K → fe w (R m as K)) (h : fc v F) : fe v (dk_144 R n F a0) := by
  unfold dk_144
  exact fe_144_4 hR (by assumption)
theorem fe_145 {F : wq_F} (h : fc v F) : fe v (dk_145 F) := by
  unfold dk_145
  refine fe_l (fun _ => ?_)
  refine fe_i ?_ ?_
  exact fe_r (by assumption)
  refine fe_i ?_ ?_
  exact fe_r (by assumption)
  refine fe_i ?_ ?_
  exact fe_r (by assumption)
  refine fe_i ?_ ?_
  exact fe_r (by assumption)
  refine fe_i ?_ ?_
  exact fe_r (by assumption)
  refine fe_i ?_ ?_
  exact fe_r (by assumption)
  refine fe_i ?_ ?_
  exact fe_r (by assumption)
  refine fe_i ?_ ?_
  exact fe_r (by assumption)
  refine fe_i ?_ ?_
  exact fe_r (by assumption)
  refine fe_i ?_ ?_
  exact fe_r (by assumption)
  refine fe_i ?_ ?_
  exact fe_r (by assumption)
  refine fe_i ?_ ?_
  exact fe_r (by assumption)
  refine fe_i ?_ ?_
  exact fe_r (by assumption)
  refine fe_i ?_ ?_
  exact fe_r (by assumption)
  refine fe_i ?_ ?_
  exact fe_r (by assumption)
  refine fe_i ?_ ?_
  exact fe_r (by assumption)
  refine fe_i ?_ ?_
  exact fe_r (by assumption)
  refine fe_i ?_ ?_
  exact fe_r (by assumption)
  refine fe_i ?_ ?_
  exact fe_r (by assumption)
  refine fe_i ?_ ?_
  exact fe_r (by assumption)
  refine fe_i ?_ ?_
  exact fe_r (by assumption)
  refine fe_i ?_ ?_
  exact fe_r (by assumption)
  refine fe_i ?_ ?_
  exact fe_r (by assumption)
  refine fe_i ?_ ?_
  exact fe_r (by assumption)
  refine fe_i ?_ ?_
  exact fe_r (by assumption)
  refine fe_i ?_ ?_
  exact fe_r (by assumption)
  refine fe_i ?_ ?_
  exact fe_r (by assumption)
  refine fe_i ?_ ?_
  exact fe_r (by assumption)
  refine fe_i ?_ ?_
  exact fe_r (by assumption)
  refine fe_i ?_ ?_
  exact fe_r (by assumption)
  refine fe_i ?_ ?_
  exact fe_r (by assumption)
  refine fe_i ?_ ?_
  exact fe_r (by assumption)
  refine fe_i ?_ ?_
  exact fe_r (by assumption)
  refine fe_i ?_ ?_
  exact fe_r (by assumption)
  refine fe_i ?_ ?_
  exact fe_r (by assumption)
  refine fe_i ?_ ?_
  exact fe_r (by assumption)
  refine fe_i ?_ ?_
  exact fe_r (by assumption)
  refine fe_i ?_ ?_
  exact fe_r (by assumption)
  refine fe_i ?_ ?_
  exact fe_r (by assumption)
  refine fe_i ?_ ?_
  exact fe_r (by assumption)
  refine fe_i ?_ ?_
  exact fe_r (by assumption)
  refine fe_i ?_ ?_
  exact fe_r (by assumption)
  refine fe_i ?_ ?_
  exact fe_r (by assumption)
  refine fe_i ?_ ?_
  exact fe_r (by assumption)
  refine fe_i ?_ ?_
  exact fe_r (by assumption)
  refine fe_i ?_ ?_
  exact fe_r (by assumption)
  refine fe_i ?_ ?_
  exact fe_r (by assumption)
  refine fe_i ?_ ?_
  exact fe_r (by assumption)
  refine fe_i ?_ ?_
  exact fe_r (by assumption)
  refine fe_i ?_ ?_
  exact fe_r (by assumption)
  refine fe_i ?_ ?_
  exact fe_r (by assumption)
  refine fe_i ?_ ?_
  exact fe_r (by assumption)
  refine fe_i ?_ ?_
  exact fe_r (by assumption)
  refine fe_i ?_ ?_
  exact fe_r (by assumption)
  refine fe_i ?_ ?_
  exact fe_r (by assumption)
  refine fe_i ?_ ?_
  exact fe_r (by assumption)
  refine fe_i ?_ ?_
  exact fe_r (by assumption)
  refine fe_i ?_ ?_
  exact fe_r (by assumption)
  refine fe_i ?_ ?_
  exact fe_r (by assumption)
  refine fe_i ?_ ?_
  exact fe_r (by assumption)
  exact fe_r (by assumption)
theorem fe_147 {F : wq_F} {a0 : Nat} (h : fc v F) : fe v (dk_147 F a0) := by
  unfold dk_147
  refine fe_i ?_ ?_
  exact fe_r (by assumption)
  refine fe_i ?_ ?_
  exact fe_r (by assumption)
  refine fe_i ?_ ?_
  exact fe_r (by assumption)
  refine fe_i ?_ ?_
  exact fe_r (by assumption)
  refine fe_i ?_ ?_
  exact fe_r (by assumption)
  refine fe_i ?_ ?_
  exact fe_r (by assumption)
  refine fe_i ?_ ?_
  exact fe_r (by assumption)
  refine fe_i ?_ ?_
  exact fe_r (by assumption)
  refine fe_i ?_ ?_
  exact fe_r (by assumption)
  refine fe_i ?_ ?_
  exact fe_r (by assumption)
  refine fe_i ?_ ?_
  exact fe_r (by assumption)
  refine fe_i ?_ ?_
  exact fe_r (by assumption)
  refine fe_i ?_ ?_
  exact fe_r (by assumption)
  refine fe_i ?_ ?_
  exact fe_r (by assumption)
  refine fe_i ?_ ?_
  exact fe_r (by assumption)
  refine fe_i ?_ ?_
  exact fe_r (by assumption)
  refine fe_i ?_ ?_
  exact fe_r (by assumption)
  refine fe_i ?_ ?_
  exact fe_r (by assumption)
  refine fe_i ?_ ?_
  exact fe_r (by assumption)
  refine fe_i ?_ ?_
  exact fe_r (by assumption)
  refine fe_i ?_ ?_
  exact fe_r (by assumption)
  refine fe_i ?_ ?_
  exact fe_r (by assumption)
  refine fe_i ?_ ?_
  exact fe_r (by assumption)
  refine fe_i ?_ ?_
  exact fe_r (by assumption)
  refine fe_i ?_ ?_
  exact fe_r (by assumption)
  refine fe_i ?_ ?_
  exact fe_r (by assumption)
  refine fe_i ?_ ?_
  exact fe_r (by assumption)
  refine fe_i ?_ ?_
  exact fe_r (by assumption)
  refine fe_i ?_ ?_
  exact fe_r (by assumption)
  refine fe_i ?_ ?_
  exact fe_r (by assumption)
  exact fe_r (by assumption)
theorem fe_148_86b {R : dk_Rt} {n : Nat} {r86 : wq_F → Nat → Nat → Nat → Nat → Option (Nat × wq_F)} {F : wq_F} {v1 : Nat} {v2 : Nat} {v3 : Nat} {v5 : Nat} (hR : ∀ m as K w, fc w K → fe w (R m as K)) (hr86 : ∀ K x0 x1 x2 x3, fc v K → fe v (r86 K x0 x1 x2 x3)) (h : fc v F) : fe v (dk_148_86b R n r86 F v1 v2 v3 v5) := by
  unfold dk_148_86b
  refine fe_i ?_ ?_
  exact fe_r (by assumption)
  refine fe_b (fe_145 (by assumption)) (fun _ _ _ => ?_)
  refine fe_i ?_ ?_
  refine fe_b (hR _ _ _ _ (by assumption)) (fun _ _ _ => ?_)
  refine fe_l (fun _ => ?_)
  exact hr86 _ _ _ _ _ (by assumption)
  exact fe_r (by assumption)
theorem fe_148_86 {R : dk_Rt} {n : Nat} {g : Nat} {F : wq_F} {x0 : Nat} {x1 : Nat} {x2 : Nat} {x3 : Nat} (hR : ∀ m as K w, fc w K → fe w (R m as K)) (h : fc v F) : fe v (dk_148_86 R n g F x0 x1 x2 x3) := by
  induction g generalizing F x0 x1 x2 x3 with
  | zero => exact fe_n
  | succ g ih =>
    exact fe_148_86b hR (fun K x0 x1 x2 x3 h => by first | exact ih h | exact ih K x0 x1 x2 x3 h) h
theorem fe_148 {R : dk_Rt} {n : Nat} {F : wq_F} {a0 : Nat} {a1 : Nat} (hR : ∀ m as K w, fc w K → fe w (R m as K)) (h : fc v F) : fe v (dk_148 R n F a0 a1) := by
  unfold dk_148
  refine fe_b (fe_114 (by assumption)) (fun _ _ _ => ?_)
  refine fe_i ?_ ?_
  refine fe_b (fe_109 (by assumption)) (fun _ _ _ => ?_)
  exact fe_r (by assumption)
  refine fe_i ?_ ?_
  refine fe_b (fe_109 (by assumption)) (fun _ _ _ => ?_)
  exact fe_r (by assumption)
  refine fe_b (fe_146 (by assumption)) (fun _ _ _ => ?_)
  refine fe_i ?_ ?_
  refine fe_b (hR _ _ _ _ (by assumption)) (fun _ _ _ => ?_)
  exact fe_148_86 hR (by assumption)
  refine fe_b (fe_77 (by assumption)) (fun _ _ _ => ?_)
  refine fe_b (hR _ _ _ _ (by assumption)) (fun _ _ _ => ?_)
  refine fe_b (fe_112 (by assumption)) (fun _ _ _ => ?_)
  exact fe_148_86 hR (by assumption)
theorem fe_149_52 {R : dk_Rt} {n : Nat} {F : wq_F} {v1 : Nat} {v3 : Nat} {v4 : Nat} {s0 : Nat} (hR : ∀ m as K w, fc w K → fe w (R m as K)) (h : fc v F) : fe v (dk_149_52 R n F v1 v3 v4 s0) := by
  unfold dk_149_52
  refine fe_b (fe_78 (by assumption)) (fun _ _ _ => ?_)
  refine fe_b (fe_163 (by assumption)) (fun _ _ _ => ?_)
  refine fe_b (hR _ _ _ _ (by assumption)) (fun _ _ _ => ?_)
  refine fe_b (fe_159 (by assumption)) (fun _ _ _ => ?_)
  exact fe_r (by assumption)
theorem fe_149_105 {R : dk_Rt} {n : Nat} {F : wq_F} {v1 : Nat} {v2 : Nat} {v3 : Nat} {v4 : Nat} {s0 : Nat} (hR : ∀ m as K w, fc w K → fe w (R m as K)) (h : fc v F) : fe v (dk_149_105 R n F v1 v2 v3 v4 s0) := by
  unfold dk_149_105
  refine fe_b (hR _ _ _ _ (by assumption)) (fun _ _ _ => ?_)
  refine fe_b (fe_147 (by assumption)) (fun _ _ _ => ?_)
  refine fe_b (fe_112 (by assumption)) (fun _ _ _ => ?_)
  refine fe_i ?_ ?_
  refine fe_b (fe_112 (by assumption)) (fun _ _ _ => ?_)
  exact fe_r (by assumption)
  refine fe_i ?_ ?_
  refine fe_b (fe_112 (by assumption)) (fun _ _ _ => ?_)
  exact fe_r (by assumption)
  exact fe_r (by assumption)
theorem fe_149 {R : dk_Rt} {n : Nat} {F : wq_F} {a0 : Nat} (hR : ∀ m as K w, fc w K → fe w (R m as K)) (h : fc v F) : fe v (dk_149 R n F a0) := by
  unfold dk_149
  refine fe_b (fe_145 (by assumption)) (fun _ _ _ => ?_)
  refine fe_b (fe_77 (by assumption)) (fun _ _ _ => ?_)
  refine fe_i ?_ ?_
  refine fe_i ?_ ?_
  exact fe_149_52 hR (by assumption)
  exact fe_149_52 hR (by assumption)
  refine fe_i ?_ ?_
  refine fe_i ?_ ?_
  exact fe_149_52 hR (by assumption)
  exact fe_149_52 hR (by assumption)
  refine fe_i ?_ ?_
  refine fe_l (fun _ => ?_)
  exact fe_149_105 hR (by assumption)
  exact fe_149_105 hR (by assumption)
theorem fe_161 {F : wq_F} (h : fc v F) : fe v (dk_161 F) := by
  unfold dk_161
  refine fe_g ?_
  exact fe_r (by assumption)
theorem fe_150_191 {R : dk_Rt} {n : Nat} {F : wq_F} {v2 : Nat} (hR : ∀ m as K w, fc w K → fe w (R m as K)) (h : fc v F) : fe v (dk_150_191 R n F v2) := by
  unfold dk_150_191
  refine fe_b (fe_77 (by assumption)) (fun _ _ _ => ?_)
  refine fe_b (fe_78 (by assumption)) (fun _ _ _ => ?_)
  refine fe_b (fe_163 (by assumption)) (fun _ _ _ => ?_)
  exact fe_r (by assumption)
theorem fe_150 {R : dk_Rt} {n : Nat} {F : wq_F} {a0 : Nat} (hR : ∀ m as K w, fc w K → fe w (R m as K)) (h : fc v F) : fe v (dk_150 R n F a0) := by
  unfold dk_150
  refine fe_l (fun _ => ?_)
  refine fe_i ?_ ?_
  refine fe_b (fe_157 (by assumption)) (fun _ _ _ => ?_)
  refine fe_b (fe_112 (by assumption)) (fun _ _ _ => ?_)
  refine fe_b (fe_77 (by assumption)) (fun _ _ _ => ?_)
  exact fe_r (by assumption)
  refine fe_i ?_ ?_
  refine fe_b (fe_112 (by assumption)) (fun _ _ _ => ?_)
  refine fe_b (fe_77 (by assumption)) (fun _ _ _ => ?_)
  exact fe_r (by assumption)
  refine fe_i ?_ ?_
  refine fe_i ?_ ?_
  refine fe_b (fe_112 (by assumption)) (fun _ _ _ => ?_)
  refine fe_b (fe_77 (by assumption)) (fun _ _ _ => ?_)
  exact fe_r (by assumption)
  refine fe_b (fe_112 (by assumption)) (fun _ _ _ => ?_)
  refine fe_b (fe_77 (by assumption)) (fun _ _ _ => ?_)
  exact fe_r (by assumption)
  refine fe_i ?_ ?_
  refine fe_b (fe_77 (by assumption)) (fun _ _ _ => ?_)
  refine fe_b (hR _ _ _ _ (by assumption)) (fun _ _ _ => ?_)
  exact fe_r (by assumption)
  refine fe_i ?_ ?_
  refine fe_b (fe_112 (by assumption)) (fun _ _ _ => ?_)
  refine fe_b (fe_77 (by assumption)) (fun _ _ _ => ?_)
  exact fe_r (by assumption)
  refine fe_i ?_ ?_
  refine fe_i ?_ ?_
  refine fe_b (fe_112 (by assumption)) (fun _ _ _ => ?_)
  refine fe_b (fe_77 (by assumption)) (fun _ _ _ => ?_)
  exact fe_r (by assumption)
  refine fe_b (fe_112 (by assumption)) (fun _ _ _ => ?_)
  refine fe_b (fe_77 (by assumption)) (fun _ _ _ => ?_)
  exact fe_r (by assumption)
  refine fe_i ?_ ?_
  refine fe_b (hR _ _ _ _ (by assumption)) (fun _ _ _ => ?_)
  exact fe_r (by assumption)
  refine fe_i ?_ ?_
  refine fe_b (fe_161 (by assumption)) (fun _ _ _ => ?_)
  refine fe_g ?_
  refine fe_i ?_ ?_
  refine fe_b (fe_109 (by assumption)) (fun _ _ _ => ?_)
  exact fe_150_191 hR (by assumption)
  exact fe_150_191 hR (by assumption)
  refine fe_b (hR _ _ _ _ (by assumption)) (fun _ _ _ => ?_)
  refine fe_i ?_ ?_
  refine fe_b (fe_136 (by assumption)) (fun _ _ _ => ?_)
  exact fe_r (by assumption)
  refine fe_b (fe_136 (by assumption)) (fun _ _ _ => ?_)
  exact fe_r (by assumption)
theorem fe_152 {n : Nat} {F : wq_F} (h : fc v F) : fe v (dk_152 n F) := by
  unfold dk_152
  refine fe_i ?_ ?_
  refine fe_b (fe_77 (by assumption)) (fun _ _ _ => ?_)
  exact fe_r (by assumption)
  refine fe_i ?_ ?_
  refine fe_b (fe_77 (by assumption)) (fun _ _ _ => ?_)
  exact fe_r (by assumption)
  refine fe_i ?_ ?_
  exact fe_r (by assumption)
  refine fe_b (fe_109 (by assumption)) (fun _ _ _ => ?_)
  exact fe_r (by assumption)
theorem fe_151_136 {R : dk_Rt} {n : Nat} {r32 : wq_F → Nat → Nat → Nat → Nat → Option (Nat × wq_F)} {F : wq_F} {v1 : Nat} {v2 : Nat} {v3 : Nat} {v4 : Nat} {s0 : Nat} (hR : ∀ m as K w, fc w K → fe w (R m as K)) (hr32 : ∀ K x0 x1 x2 x3, fc v K → fe v (r32 K x0 x1 x2 x3)) (h : fc v F) : fe v (dk_151_136 R n r32 F v1 v2 v3 v4 s0) := by
  unfold dk_151_136
  refine fe_i ?_ ?_
  refine fe_l (fun _ => ?_)
  refine fe_b (hR _ _ _ _ (by assumption)) (fun _ _ _ => ?_)
  refine fe_l (fun _ => ?_)
  exact hr32 _ _ _ _ _ (by assumption)
  refine fe_b (hR _ _ _ _ (by assumption)) (fun _ _ _ => ?_)
  refine fe_b (fe_152 (by assumption)) (fun _ _ _ => ?_)
  refine fe_l (fun _ => ?_)
  exact hr32 _ _ _ _ _ (by assumption)
theorem fe_185 {F : wq_F} (h : fc v F) : fe v (dk_185 F) := by
  unfold dk_185
  refine fe_b (fe_74 (by assumption)) (fun _ _ _ => ?_)
  refine fe_b (fe_186 (by assumption)) (fun _ _ _ => ?_)
  refine fe_i ?_ ?_
  refine fe_b (fe_186 (by assumption)) (fun _ _ _ => ?_)
  refine fe_i ?_ ?_
  exact fe_r (by assumption)
  exact fe_r (by assumption)
  exact fe_r (by assumption)
theorem fe_151_98 {R : dk_Rt} {n : Nat} {r32 : wq_F → Nat → Nat → Nat → Nat → Option (Nat × wq_F)} {F : wq_F} {v1 : Nat} {v2 : Nat} {v3 : Nat} {v4 : Nat} (hR : ∀ m as K w, fc w K → fe w (R m as K)) (hr32 : ∀ K x0 x1 x2 x3, fc v K → fe v (r32 K x0 x1 x2 x3)) (h : fc v F) : fe v (dk_151_98 R n r32 F v1 v2 v3 v4) := by
  unfold dk_151_98
  refine fe_i ?_ ?_
  exact fe_151_136 hR hr32 (by assumption)
  refine fe_i ?_ ?_
  refine fe_b (fe_185 (by assumption)) (fun _ _ _ => ?_)
  refine fe_i ?_ ?_
  exact fe_151_136 hR hr32 (by assumption)
  exact fe_151_136 hR hr32 (by assumption)
  exact fe_151_136 hR hr32 (by assumption)
theorem fe_151_78 {R : dk_Rt} {n : Nat} {r32 : wq_F → Nat → Nat → Nat → Nat → Option (Nat × wq_F)} {F : wq_F} {v1 : Nat} {v2 : Nat} {v3 : Nat} {v4 : Nat} (hR : ∀ m as K w, fc w K → fe w (R m as K)) (hr32 : ∀ K x0 x1 x2 x3, fc v K → fe v (r32 K x0 x1 x2 x3)) (h : fc v F) : fe v (dk_151_78 R n r32 F v1 v2 v3 v4) := by
  unfold dk_151_78
  refine fe_i ?_ ?_
  refine fe_b (fe_109 (by assumption)) (fun _ _ _ => ?_)
  exact fe_151_98 hR hr32 (by assumption)
  refine fe_i ?_ ?_
  refine fe_b (fe_109 (by assumption)) (fun _ _ _ => ?_)
  exact fe_151_98 hR hr32 (by assumption)
  exact fe_151_98 hR hr32 (by assumption)
theorem fe_151_32b {R : dk_Rt} {n : Nat} {r32 : wq_F → Nat → Nat → Nat → Nat → Option (Nat × wq_F)} {F : wq_F} {v1 : Nat} {v2 : Nat} {v3 : Nat} {v4 : Nat} (hR : ∀ m as K w, fc w K → fe w (R m as K)) (hr32 : ∀ K x0 x1 x2 x3, fc v K → fe v (r32 K x0 x1 x2 x3)) (h : fc v F) : fe v (dk_151_32b R n r32 F v1 v2 v3 v4) := by
  unfold dk_151_32b
  refine fe_i ?_ ?_
  refine fe_b (fe_110 (by assumption)) (fun _ _ _ => ?_)
  refine fe_b (fe_162 (by assumption)) (fun _ _ _ => ?_)
  exact fe_r (by assumption)
  refine fe_i ?_ ?_
  refine fe_b (fe_110 (by assumption)) (fun _ _ _ => ?_)
  refine fe_b (fe_162 (by assumption)) (fun _ _ _ => ?_)
  exact fe_r (by assumption)
  refine fe_i ?_ ?_
  exact fe_151_78 hR hr32 (by assumption)
  refine fe_b (fe_114 (by assumption)) (fun _ _ _ => ?_)
  refine fe_i ?_ ?_
  refine fe_b (fe_109 (by assumption)) (fun _ _ _ => ?_)
  exact fe_151_98 hR hr32 (by assumption)
  exact fe_151_78 hR hr32 (by assumption)
theorem fe_151_32 {R : dk_Rt} {n : Nat} {g : Nat} {F : wq_F} {x0 : Nat} {x1 : Nat} {x2 : Nat} {x3 : Nat} (hR : ∀ m as K w, fc w K → fe w (R m as K)) (h : fc v F) : fe v (dk_151_32 R n g F x0 x1 x2 x3) := by
  induction g generalizing F x0 x1 x2 x3 with
  | zero => exact fe_n
  | succ g ih =>
    exact fe_151_32b hR (fun K x0 x1 x2 x3 h => by first | exact ih h | exact ih K x0 x1 x2 x3 h) h
theorem fe_151 {R : dk_Rt} {n : Nat} {F : wq_F} {a0 : Nat} (hR : ∀ m as K w, fc w K → fe w (R m as K)) (h : fc v F) : fe v (dk_151 R n F a0) := by
  unfold dk_151
  refine fe_b (fe_84 (by assumption)) (fun _ _ _ => ?_)
  refine fe_b (fe_112 (by assumption)) (fun _ _ _ => ?_)
  refine fe_b (fe_77 (by assumption)) (fun _ _ _ => ?_)
  exact fe_151_32 hR (by assumption)
theorem fe_153_43 {R : dk_Rt} {n : Nat} {F : wq_F} {v1 : Nat} {v2 : Nat} (hR : ∀ m as K w, fc w K → fe w (R m as K)) (h : fc v F) : fe v (dk_153_43 R n F v1 v2) := by
  unfold dk_153_43
  refine fe_b (fe_110 (by assumption)) (fun _ _ _ => ?_)
  refine fe_b (hR _ _ _ _ (by assumption)) (fun _ _ _ => ?_)
  refine fe_b (fe_112 (by assumption)) (fun _ _ _ => ?_)
  exact fe_r (by assumption)
theorem fe_153 {R : dk_Rt} {n : Nat} {F : wq_F} {a0 : Nat} (hR : ∀ m as K w, fc w K → fe w (R m as K)) (h : fc v F) : fe v (dk_153 R n F a0) := by
  unfold dk_153
  refine fe_b (fe_111 (by assumption)) (fun _ _ _ => ?_)
  refine fe_i ?_ ?_
  refine fe_b (fe_135 (by assumption)) (fun _ _ _ => ?_)
  refine fe_b (fe_77 (by assumption)) (fun _ _ _ => ?_)
  exact fe_153_43 hR (by assumption)
  refine fe_b (hR _ _ _ _ (by assumption)) (fun _ _ _ => ?_)
  refine fe_b (fe_110 (by assumption)) (fun _ _ _ => ?_)
  exact fe_153_43 hR (by assumption)
theorem fe_154 {R : dk_Rt} {n : Nat} {F : wq_F} {a0 : Nat} {a1 : Nat} {a2 : Nat} (hR : ∀ m as K w, fc w K → fe w (R m as K)) (h : fc v F) : fe v (dk_154 R n F a0 a1 a2) := by
  unfold dk_154
  refine fe_b (hR _ _ _ _ (by assumption)) (fun _ _ _ => ?_)
  refine fe_b (fe_152 (by assumption)) (fun _ _ _ => ?_)
  refine fe_i ?_ ?_
  refine fe_b (fe_112 (by assumption)) (fun _ _ _ => ?_)
  exact fe_r (by assumption)
  refine fe_i ?_ ?_
  refine fe_b (fe_158 (by assumption)) (fun _ _ _ => ?_)
  refine fe_b (fe_78 (by assumption)) (fun _ _ _ => ?_)
  refine fe_b (fe_163 (by assumption)) (fun _ _ _ => ?_)
  exact fe_r (by assumption)
  refine fe_b (fe_112 (by assumption)) (fun _ _ _ => ?_)
  exact fe_r (by assumption)
theorem fe_57 {F : wq_F} {a0 : Nat} (h : fc v F) : fe v (dk_57 F a0) := by
  unfold dk_57
  refine fe_g ?_
  refine fe_u (by unfold fcx; omega) (by assumption) (fun _ _ => ?_)
  refine fe_g ?_
  refine fe_u (by unfold fcx; omega) (by assumption) (fun _ _ => ?_)
  refine fe_g ?_
  refine fe_u (by unfold fcx; omega) (by assumption) (fun _ _ => ?_)
  refine fe_g ?_
  refine fe_u (by unfold fcx; omega) (by assumption) (fun _ _ => ?_)
  refine fe_g ?_
  refine fe_u (by unfold fcx; omega) (by assumption) (fun _ _ => ?_)
  refine fe_l (fun _ => ?_)
  refine fe_u (by unfold fcx; omega) (by assumption) (fun _ _ => ?_)
  exact fe_r (by assumption)
theorem fe_156_117 {n : Nat} {F : wq_F} {v1 : Nat} {v2 : Nat} (h : fc v F) : fe v (dk_156_117 n F v1 v2) := by
  unfold dk_156_117
  refine fe_i ?_ ?_
  exact fe_r (by assumption)
  refine fe_g ?_
  refine fe_u (by unfold fcx; omega) (by assumption) (fun _ _ => ?_)
  refine fe_b (fe_77 (by assumption)) (fun _ _ _ => ?_)
  exact fe_r (by assumption)
theorem fe_156_100 {n : Nat} {r38 : wq_F → Nat → Nat → Nat → Nat → Option (Nat × wq_F)} {F : wq_F} {v1 : Nat} {v4 : Nat} {s0 : Nat} (hr38 : ∀ K x0 x1 x2 x3, fc v K → fe v (r38 K x0 x1 x2 x3)) (h : fc v F) : fe v (dk_156_100 n r38 F v1 v4 s0) := by
  unfold dk_156_100
  refine fe_i ?_ ?_
  refine fe_l (fun _ => ?_)
  exact hr38 _ _ _ _ _ (by assumption)
  refine fe_l (fun _ => ?_)
  exact hr38 _ _ _ _ _ (by assumption)
theorem fe_156_74 {n : Nat} {r38 : wq_F → Nat → Nat → Nat → Nat → Option (Nat × wq_F)} {F : wq_F} {v1 : Nat} {v2 : Nat} {v4 : Nat} {s0 : Nat} (hr38 : ∀ K x0 x1 x2 x3, fc v K → fe v (r38 K x0 x1 x2 x3)) (h : fc v F) : fe v (dk_156_74 n r38 F v1 v2 v4 s0) := by
  unfold dk_156_74
  refine fe_i ?_ ?_
  refine fe_l (fun _ => ?_)
  exact hr38 _ _ _ _ _ (by assumption)
  refine fe_b (fe_77 (by assumption)) (fun _ _ _ => ?_)
  refine fe_i ?_ ?_
  exact fe_156_100 hr38 (by assumption)
  exact fe_156_100 hr38 (by assumption)
theorem fe_156_38b {n : Nat} {r38 : wq_F → Nat → Nat → Nat → Nat → Option (Nat × wq_F)} {F : wq_F} {v1 : Nat} {v2 : Nat} {v3 : Nat} {v4 : Nat} (hr38 : ∀ K x0 x1 x2 x3, fc v K → fe v (r38 K x0 x1 x2 x3)) (h : fc v F) : fe v (dk_156_38b n r38 F v1 v2 v3 v4) := by
  unfold dk_156_38b
  refine fe_i ?_ ?_
  exact fe_156_117 (by assumption)
  refine fe_i ?_ ?_
  exact fe_156_117 (by assumption)
  refine fe_b (fe_124 (by assumption)) (fun _ _ _ => ?_)
  refine fe_b (fe_77 (by assumption)) (fun _ _ _ => ?_)
  refine fe_i ?_ ?_
  exact fe_156_74 hr38 (by assumption)
  exact fe_156_74 hr38 (by assumption)
theorem fe_156_38 {n : Nat} {g : Nat} {F : wq_F} {x0 : Nat} {x1 : Nat} {x2 : Nat} {x3 : Nat} (h : fc v F) : fe v (dk_156_38 n g F x0 x1 x2 x3) := by
  induction g generalizing F x0 x1 x2 x3 with
  | zero => exact fe_n
  | succ g ih =>
    exact fe_156_38b (fun K x0 x1 x2 x3 h => by first | exact ih h | exact ih K x0 x1 x2 x3 h) h
theorem fe_156_17 {n : Nat} {F : wq_F} {v1 : Nat} {s0 : Nat} (h : fc v F) : fe v (dk_156_17 n F v1 s0) := by
  unfold dk_156_17
  refine fe_i ?_ ?_
  exact fe_156_38 (by assumption)
  exact fe_156_38 (by assumption)
theorem fe_156 {n : Nat} {F : wq_F} {a0 : Nat} (h : fc v F) : fe v (dk_156 n F a0) := by
  unfold dk_156
  refine fe_i ?_ ?_
  exact fe_156_17 (by assumption)
  exact fe_156_17 (by assumption)
theorem fe_160 {F : wq_F} (h : fc v F) : fe v (dk_160 F) := by
  unfold dk_160
  refine fe_g ?_
  refine fe_u (by unfold fcx; omega) (by assumption) (fun _ _ => ?_)
  refine fe_l (fun _ => ?_)
  refine fe_u (by unfold fcx; omega) (by assumption) (fun _ _ => ?_)
  exact fe_r (by assumption)
theorem fe_155_117 {R : dk_Rt} {n : Nat} {F : wq_F} {v1 : Nat} {v3 : Nat} {v4 : Nat} {v5 : Nat} (hR : ∀ m as K w, fc w K → fe w (R m as K)) (h : fc v F) : fe v (dk_155_117 R n F v1 v3 v4 v5) := by
  unfold dk_155_117
  refine fe_b (fe_77 (by assumption)) (fun _ _ _ => ?_)
  refine fe_b (fe_156 (by assumption)) (fun _ _ _ => ?_)
  refine fe_b (fe_110 (by assumption)) (fun _ _ _ => ?_)
  refine fe_b (fe_167 (by assumption)) (fun _ _ _ => ?_)
  refine fe_l (fun _ => ?_)
  refine fe_g ?_
  refine fe_u (by unfold fcx; omega) (by assumption) (fun _ _ => ?_)
  refine fe_g ?_
  refine fe_b (fe_162 (by assumption)) (fun _ _ _ => ?_)
  refine fe_b (fe_78 (by assumption)) (fun _ _ _ => ?_)
  refine fe_b (hR _ _ _ _ (by assumption)) (fun _ _ _ => ?_)
  refine fe_b (fe_84 (by assumption)) (fun _ _ _ => ?_)
  refine fe_b (fe_78 (by assumption)) (fun _ _ _ => ?_)
  refine fe_b (fe_110 (by assumption)) (fun _ _ _ => ?_)
  refine fe_b (fe_160 (by assumption)) (fun _ _ _ => ?_)
  refine fe_b (fe_159 (by assumption)) (fun _ _ _ => ?_)
  refine fe_b (fe_163 (by assumption)) (fun _ _ _ => ?_)
  exact fe_r (by assumption)
theorem fe_155 {R : dk_Rt} {n : Nat} {F : wq_F} {a0 : Nat} {a1 : Nat} (hR : ∀ m as K w, fc w K → fe w (R m as K)) (h : fc v F) : fe v (dk_155 R n F a0 a1) := by
  unfold dk_155
  refine fe_i ?_ ?_
  refine fe_i ?_ ?_
  refine fe_b (fe_57 (by assumption)) (fun _ _ _ => ?_)
  refine fe_b (fe_78 (by assumption)) (fun _ _ _ => ?_)
  refine fe_g ?_
  refine fe_u (by unfold fcx; omega) (by assumption) (fun _ _ => ?_)
  refine fe_b (fe_83 (by assumption)) (fun _ _ _ => ?_)
  refine fe_i ?_ ?_
  exact fe_155_117 hR (by assumption)
  refine fe_b (fe_166 (by assumption)) (fun _ _ _ => ?_)
  exact fe_155_117 hR (by assumption)
  refine fe_b (fe_109 (by assumption)) (fun _ _ _ => ?_)
  exact fe_r (by assumption)
  refine fe_b (fe_109 (by assumption)) (fun _ _ _ => ?_)
  exact fe_r (by assumption)
end
theorem fe_R {n : Nat} : ∀ (k m : Nat) (as : List Nat) (F v : wq_F), fc v F → fe v (dk_R n k m as F)
  | 0, _, _, _, _, _ => fe_n
  | k + 1, m, as, F, v, h => by
    have hR := fun m as K w (h : fc w K) => fe_R (n := n) k m as K w h
    show fe v (dk_Rb n (dk_R n k) m as F)
    unfold dk_Rb
    refine fe_i (fe_80 hR h) ?_
    refine fe_i (fe_115 hR h) ?_
    refine fe_i (fe_116 hR h) ?_
    refine fe_i (fe_117 hR h) ?_
    refine fe_i (fe_119 hR h) ?_
    refine fe_i (fe_121 hR h) ?_
    refine fe_i (fe_122 hR h) ?_
    refine fe_i (fe_123 hR h) ?_
    refine fe_i (fe_126 hR h) ?_
    refine fe_i (fe_127 hR h) ?_
    refine fe_i (fe_128 hR h) ?_
    refine fe_i (fe_130 hR h) ?_
    refine fe_i (fe_131 hR h) ?_
    refine fe_i (fe_137 hR h) ?_
    refine fe_i (fe_138 hR h) ?_
    refine fe_i (fe_139 hR h) ?_
    refine fe_i (fe_140 hR h) ?_
    refine fe_i (fe_141 hR h) ?_
    refine fe_i (fe_144 hR h) ?_
    refine fe_i (fe_148 hR h) ?_
    refine fe_i (fe_149 hR h) ?_
    refine fe_i (fe_150 hR h) ?_
    refine fe_i (fe_151 hR h) ?_
    refine fe_i (fe_153 hR h) ?_
    refine fe_i (fe_154 hR h) ?_
    refine fe_i (fe_155 hR h) ?_
    exact fe_n
