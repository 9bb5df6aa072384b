/-! ===== a59b: the number of the places noted is left as it was by the class's parser (written by wip/whole2/lawa59b.py) ===== -/
/-- if it ends, this many places are noted -/
def pe (v : Nat) (m : Option (Nat × wq_F)) : Prop := ∀ x, m = some x → x.2 56 11 = v
theorem pe_n {v : Nat} : pe v none := fun x h => nomatch h
theorem pe_r {v r : Nat} {K : wq_F} (h : K 56 11 = v) : pe v (some (r, K)) := fun x e => by
  rw [← Option.some.inj e]
  exact h
theorem pe_b {v : Nat} {m : Option (Nat × wq_F)} {f : Nat × wq_F → Option (Nat × wq_F)} (h : pe v m) (g : ∀ r K, K 56 11 = v → pe v (f (r, K))) : pe v (m.bind f) := fun x e => by
  cases m with
  | none => exact nomatch (show (none : Option (Nat × wq_F)) = some x from e)
  | some y => exact g y.1 y.2 (h y rfl) x e
theorem pe_a {v : Nat} {m : Option (Nat × wq_F)} {f : Nat × wq_F → Option (Nat × wq_F)} (g : ∀ r K, pe v (f (r, K))) : pe v (m.bind f) := fun x e => by
  cases m with
  | none => exact nomatch (show (none : Option (Nat × wq_F)) = some x from e)
  | some y => exact g y.1 y.2 x e
theorem pe_i {v : Nat} {c : Prop} [Decidable c] {a b : Option (Nat × wq_F)} (h1 : pe v a) (h2 : pe v b) : pe v (if c then a else b) := by
  by_cases q : c
  · rw [if_pos q]
    exact h1
  · rw [if_neg q]
    exact h2
theorem pe_g {v : Nat} {c : Prop} [Decidable c] {k : Option (Nat × wq_F)} (h : pe v k) : pe v (od_g c k) := pe_i h pe_n
theorem pe_l {v x : Nat} {k : Nat → Option (Nat × wq_F)} (h : ∀ y, pe v (k y)) : pe v (od_let x k) := h x
theorem pe_u {v c i x : Nat} {F : wq_F} {k : wq_F → Option (Nat × wq_F)} (hc : ¬ (c = 56 ∧ i = 11)) (h : F 56 11 = v) (g : ∀ H, H 56 11 = v → pe v (k H)) : pe v (od_up F c i x k) := g _ ((wq_up_ne (fun z => hc ⟨z.1.symm, z.2.symm⟩)).trans h)
theorem pe_c {v s sp t dp n : Nat} {F : wq_F} {k : wq_F → Option (Nat × wq_F)} (hc : ¬ t = 56) (h : F 56 11 = v) (g : ∀ H, H 56 11 = v → pe v (k H)) : pe v (od_cp F s sp t dp n k) := g _ ((if_neg (fun z => hc z.1.symm)).trans h)
theorem wok_pe {v : Nat} {m : Option (Nat × wq_F)} {A : Nat → wq_F → Prop} (h : wok m A) (g : pe v m) : wok m (fun r K => A r K ∧ K 56 11 = v) := by
  obtain ⟨r, K, e, a⟩ := h
  exact ⟨r, K, e, a, g (r, K) e⟩
section
variable {v : Nat}
theorem pe_74 {F : wq_F} {a0 : Nat} (h : F 56 11 = v) : pe v (dk_74 F a0) := by
  unfold dk_74
  exact pe_g (pe_r h)
theorem pe_188 {F : wq_F} {a0 : Nat} (h : F 56 11 = v) : pe v (dk_188 F a0) := by
  unfold dk_188
  exact pe_r (by assumption)
theorem pe_187 {F : wq_F} {a0 : Nat} (h : F 56 11 = v) : pe v (dk_187 F a0) := by
  unfold dk_187
  exact pe_r (by assumption)
theorem pe_73_24b {n : Nat} {r24 : wq_F → Nat → Nat → Option (Nat × wq_F)} {F : wq_F} {v1 : Nat} {v2 : Nat} (hr24 : ∀ K x0 x1, K 56 11 = v → pe v (r24 K x0 x1)) (h : F 56 11 = v) : pe v (dk_73_24b n r24 F v1 v2) := by
  unfold dk_73_24b
  refine pe_i ?_ ?_
  refine pe_g ?_
  refine pe_i ?_ ?_
  refine pe_u (by omega) (by assumption) (fun _ _ => ?_)
  refine pe_l (fun _ => ?_)
  exact hr24 _ _ _ (by assumption)
  refine pe_l (fun _ => ?_)
  exact hr24 _ _ _ (by assumption)
  refine pe_u (by omega) (by assumption) (fun _ _ => ?_)
  refine pe_u (by omega) (by assumption) (fun _ _ => ?_)
  refine pe_i ?_ ?_
  refine pe_u (by omega) (by assumption) (fun _ _ => ?_)
  refine pe_g ?_
  refine pe_b (pe_188 (by assumption)) (fun _ _ _ => ?_)
  refine pe_i ?_ ?_
  refine pe_b (pe_187 (by assumption)) (fun _ _ _ => ?_)
  refine pe_i ?_ ?_
  refine pe_i ?_ ?_
  exact pe_r (by assumption)
  refine pe_i ?_ ?_
  exact pe_r (by assumption)
  exact pe_r (by assumption)
  exact pe_r (by assumption)
  exact pe_r (by assumption)
  refine pe_u (by omega) (by assumption) (fun _ _ => ?_)
  exact pe_r (by assumption)
theorem pe_73_24 {n : Nat} {g : Nat} {F : wq_F} {x0 : Nat} {x1 : Nat} (h : F 56 11 = v) : pe v (dk_73_24 n g F x0 x1) := by
  induction g generalizing F x0 x1 with
  | zero => exact pe_n
  | succ g ih =>
    exact pe_73_24b (fun K x0 x1 h => by first | exact ih h | exact ih K x0 x1 h) h
theorem pe_73 {n : Nat} {F : wq_F} (h : F 56 11 = v) : pe v (dk_73 n F) := by
  unfold dk_73
  refine pe_i ?_ ?_
  exact pe_r (by assumption)
  refine pe_b (pe_74 (by assumption)) (fun _ _ _ => ?_)
  exact pe_73_24 (by assumption)
theorem pe_186 {F : wq_F} {a0 : Nat} (h : F 56 11 = v) : pe v (dk_186 F a0) := by
  unfold dk_186
  exact pe_g (pe_r h)
theorem pe_195 {F : wq_F} {a0 : Nat} {a1 : Nat} (h : F 56 11 = v) : pe v (dk_195 F a0 a1) := by
  unfold dk_195
  exact pe_r (by assumption)
theorem pe_194_111 {F : wq_F} {s0 : Nat} (h : F 56 11 = v) : pe v (dk_194_111 F s0) := by
  unfold dk_194_111
  refine pe_i ?_ ?_
  refine pe_u (by omega) (by assumption) (fun _ _ => ?_)
  refine pe_u (by omega) (by assumption) (fun _ _ => ?_)
  exact pe_r (by assumption)
  refine pe_u (by omega) (by assumption) (fun _ _ => ?_)
  refine pe_u (by omega) (by assumption) (fun _ _ => ?_)
  exact pe_r (by assumption)
theorem pe_194_73 {F : wq_F} {v1 : Nat} {v3 : Nat} (h : F 56 11 = v) : pe v (dk_194_73 F v1 v3) := by
  unfold dk_194_73
  refine pe_i ?_ ?_
  refine pe_i ?_ ?_
  exact pe_194_111 (by assumption)
  refine pe_g ?_
  exact pe_194_111 (by assumption)
  refine pe_u (by omega) (by assumption) (fun _ _ => ?_)
  refine pe_u (by omega) (by assumption) (fun _ _ => ?_)
  exact pe_r (by assumption)
theorem pe_194 {F : wq_F} (h : F 56 11 = v) : pe v (dk_194 F) := by
  unfold dk_194
  refine pe_g ?_
  refine pe_b (pe_186 (by assumption)) (fun _ _ _ => ?_)
  refine pe_b (pe_195 (by assumption)) (fun _ _ _ => ?_)
  refine pe_i ?_ ?_
  refine pe_i ?_ ?_
  refine pe_l (fun _ => ?_)
  refine pe_b (pe_186 (by assumption)) (fun _ _ _ => ?_)
  refine pe_i ?_ ?_
  refine pe_u (by omega) (by assumption) (fun _ _ => ?_)
  refine pe_l (fun _ => ?_)
  refine pe_u (by omega) (by assumption) (fun _ _ => ?_)
  exact pe_r (by assumption)
  exact pe_194_73 (by assumption)
  exact pe_194_73 (by assumption)
  exact pe_194_73 (by assumption)
theorem pe_10 {F : wq_F} (h : F 56 11 = v) : pe v (dk_10 F) := by
  unfold dk_10
  refine pe_u (by omega) (by assumption) (fun _ _ => ?_)
  exact pe_r (by assumption)
theorem pe_8_127 {n : Nat} {r64 : wq_F → Nat → Option (Nat × wq_F)} {F : wq_F} {v2 : Nat} {v3 : Nat} (hr64 : ∀ K x0, K 56 11 = v → pe v (r64 K x0)) (h : F 56 11 = v) : pe v (dk_8_127 n r64 F v2 v3) := by
  unfold dk_8_127
  refine pe_i ?_ ?_
  exact pe_r (by assumption)
  refine pe_g ?_
  refine pe_l (fun _ => ?_)
  exact hr64 _ _ (by assumption)
theorem pe_8_87b {n : Nat} {r64 : wq_F → Nat → Option (Nat × wq_F)} {r87 : wq_F → Nat → Nat → Option (Nat × wq_F)} {F : wq_F} {v2 : Nat} {v3 : Nat} (hr64 : ∀ K x0, K 56 11 = v → pe v (r64 K x0)) (hr87 : ∀ K x0 x1, K 56 11 = v → pe v (r87 K x0 x1)) (h : F 56 11 = v) : pe v (dk_8_87b n r64 r87 F v2 v3) := by
  unfold dk_8_87b
  refine pe_i ?_ ?_
  exact pe_8_127 hr64 (by assumption)
  refine pe_i ?_ ?_
  refine pe_g ?_
  refine pe_g ?_
  refine pe_l (fun _ => ?_)
  refine pe_g ?_
  refine pe_i ?_ ?_
  refine pe_l (fun _ => ?_)
  exact hr87 _ _ _ (by assumption)
  exact pe_8_127 hr64 (by assumption)
  exact pe_8_127 hr64 (by assumption)
theorem pe_8_87 {n : Nat} {r64 : wq_F → Nat → Option (Nat × wq_F)} {g : Nat} {F : wq_F} {x0 : Nat} {x1 : Nat} (hr64 : ∀ K x0, K 56 11 = v → pe v (r64 K x0)) (h : F 56 11 = v) : pe v (dk_8_87 n r64 g F x0 x1) := by
  induction g generalizing F x0 x1 with
  | zero => exact pe_n
  | succ g ih =>
    exact pe_8_87b hr64 (fun K x0 x1 h => by first | exact ih h | exact ih K x0 x1 h) h
theorem pe_8_64b {n : Nat} {r64 : wq_F → Nat → Option (Nat × wq_F)} {F : wq_F} {v2 : Nat} (hr64 : ∀ K x0, K 56 11 = v → pe v (r64 K x0)) (h : F 56 11 = v) : pe v (dk_8_64b n r64 F v2) := by
  unfold dk_8_64b
  refine pe_i ?_ ?_
  exact pe_r (by assumption)
  refine pe_g ?_
  refine pe_i ?_ ?_
  exact pe_8_87 hr64 (by assumption)
  exact pe_8_87 hr64 (by assumption)
theorem pe_8_64 {n : Nat} {g : Nat} {F : wq_F} {x0 : Nat} (h : F 56 11 = v) : pe v (dk_8_64 n g F x0) := by
  induction g generalizing F x0 with
  | zero => exact pe_n
  | succ g ih =>
    exact pe_8_64b (fun K x0 h => by first | exact ih h | exact ih K x0 h) h
theorem pe_8_7b {n : Nat} {r7 : wq_F → Nat → Nat → Option (Nat × wq_F)} {F : wq_F} {v1 : Nat} {v2 : Nat} (hr7 : ∀ K x0 x1, K 56 11 = v → pe v (r7 K x0 x1)) (h : F 56 11 = v) : pe v (dk_8_7b n r7 F v1 v2) := by
  unfold dk_8_7b
  refine pe_i ?_ ?_
  refine pe_g ?_
  refine pe_l (fun _ => ?_)
  refine pe_l (fun _ => ?_)
  exact hr7 _ _ _ (by assumption)
  refine pe_l (fun _ => ?_)
  refine pe_u (by omega) (by assumption) (fun _ _ => ?_)
  refine pe_g ?_
  refine pe_l (fun _ => ?_)
  exact pe_8_64 (by assumption)
theorem pe_8_7 {n : Nat} {g : Nat} {F : wq_F} {x0 : Nat} {x1 : Nat} (h : F 56 11 = v) : pe v (dk_8_7 n g F x0 x1) := by
  induction g generalizing F x0 x1 with
  | zero => exact pe_n
  | succ g ih =>
    exact pe_8_7b (fun K x0 x1 h => by first | exact ih h | exact ih K x0 x1 h) h
theorem pe_8 {n : Nat} {F : wq_F} (h : F 56 11 = v) : pe v (dk_8 n F) := by
  unfold dk_8
  exact pe_8_7 (by assumption)
theorem pe_182 {n : Nat} {F : wq_F} (h : F 56 11 = v) : pe v (dk_182 n F) := by
  unfold dk_182
  refine pe_b (pe_8 (by assumption)) (fun _ _ _ => ?_)
  refine pe_i ?_ ?_
  exact pe_r (by assumption)
  refine pe_i ?_ ?_
  refine pe_l (fun _ => ?_)
  exact pe_r (by assumption)
  exact pe_r (by assumption)
theorem pe_9 {F : wq_F} (h : F 56 11 = v) : pe v (dk_9 F) := by
  unfold dk_9
  refine pe_i ?_ ?_
  refine pe_l (fun _ => ?_)
  refine pe_i ?_ ?_
  exact pe_r (by assumption)
  refine pe_g ?_
  refine pe_c (by omega) (by assumption) (fun _ _ => ?_)
  refine pe_g ?_
  refine pe_u (by omega) (by assumption) (fun _ _ => ?_)
  refine pe_g ?_
  refine pe_u (by omega) (by assumption) (fun _ _ => ?_)
  refine pe_g ?_
  refine pe_u (by omega) (by assumption) (fun _ _ => ?_)
  refine pe_g ?_
  refine pe_g ?_
  refine pe_u (by omega) (by assumption) (fun _ _ => ?_)
  refine pe_g ?_
  refine pe_u (by omega) (by assumption) (fun _ _ => ?_)
  refine pe_l (fun _ => ?_)
  refine pe_u (by omega) (by assumption) (fun _ _ => ?_)
  refine pe_u (by omega) (by assumption) (fun _ _ => ?_)
  exact pe_r (by assumption)
  exact pe_r (by assumption)
theorem pe_181 {n : Nat} {F : wq_F} (h : F 56 11 = v) : pe v (dk_181 n F) := by
  unfold dk_181
  refine pe_b (pe_8 (by assumption)) (fun _ _ _ => ?_)
  refine pe_i ?_ ?_
  refine pe_b (pe_9 (by assumption)) (fun _ _ _ => ?_)
  refine pe_g ?_
  refine pe_u (by omega) (by assumption) (fun _ _ => ?_)
  refine pe_u (by omega) (by assumption) (fun _ _ => ?_)
  exact pe_r (by assumption)
  refine pe_g ?_
  refine pe_i ?_ ?_
  refine pe_g ?_
  refine pe_u (by omega) (by assumption) (fun _ _ => ?_)
  refine pe_u (by omega) (by assumption) (fun _ _ => ?_)
  exact pe_r (by assumption)
  refine pe_u (by omega) (by assumption) (fun _ _ => ?_)
  exact pe_r (by assumption)
theorem pe_190_63 {n : Nat} {F : wq_F} {v1 : Nat} (h : F 56 11 = v) : pe v (dk_190_63 n F v1) := by
  unfold dk_190_63
  refine pe_u (by omega) (by assumption) (fun _ _ => ?_)
  refine pe_b (pe_182 (by assumption)) (fun _ _ _ => ?_)
  refine pe_i ?_ ?_
  refine pe_l (fun _ => ?_)
  refine pe_i ?_ ?_
  refine pe_u (by omega) (by assumption) (fun _ _ => ?_)
  exact pe_r (by assumption)
  refine pe_u (by omega) (by assumption) (fun _ _ => ?_)
  refine pe_b (pe_181 (by assumption)) (fun _ _ _ => ?_)
  refine pe_u (by omega) (by assumption) (fun _ _ => ?_)
  exact pe_r (by assumption)
  refine pe_u (by omega) (by assumption) (fun _ _ => ?_)
  exact pe_r (by assumption)
theorem pe_0 {F : wq_F} {a0 : Nat} (h : F 56 11 = v) : pe v (dk_0 F a0) := by
  unfold dk_0
  refine pe_i ?_ ?_
  refine pe_g ?_
  refine pe_u (by omega) (by assumption) (fun _ _ => ?_)
  refine pe_u (by omega) (by assumption) (fun _ _ => ?_)
  exact pe_r (by assumption)
  exact pe_r (by assumption)
theorem pe_190_12b {n : Nat} {r12 : wq_F → Nat → Option (Nat × wq_F)} {F : wq_F} {v1 : Nat} (hr12 : ∀ K x0, K 56 11 = v → pe v (r12 K x0)) (h : F 56 11 = v) : pe v (dk_190_12b n r12 F v1) := by
  unfold dk_190_12b
  refine pe_i ?_ ?_
  refine pe_g ?_
  refine pe_b (pe_188 (by assumption)) (fun _ _ _ => ?_)
  refine pe_i ?_ ?_
  refine pe_g ?_
  refine pe_b (pe_187 (by assumption)) (fun _ _ _ => ?_)
  refine pe_i ?_ ?_
  exact pe_190_63 (by assumption)
  refine pe_g ?_
  refine pe_b (pe_0 (by assumption)) (fun _ _ _ => ?_)
  refine pe_l (fun _ => ?_)
  exact hr12 _ _ (by assumption)
  refine pe_g ?_
  refine pe_b (pe_0 (by assumption)) (fun _ _ _ => ?_)
  refine pe_l (fun _ => ?_)
  exact hr12 _ _ (by assumption)
  exact pe_190_63 (by assumption)
theorem pe_190_12 {n : Nat} {g : Nat} {F : wq_F} {x0 : Nat} (h : F 56 11 = v) : pe v (dk_190_12 n g F x0) := by
  induction g generalizing F x0 with
  | zero => exact pe_n
  | succ g ih =>
    exact pe_190_12b (fun K x0 h => by first | exact ih h | exact ih K x0 h) h
theorem pe_190 {n : Nat} {F : wq_F} (h : F 56 11 = v) : pe v (dk_190 n F) := by
  unfold dk_190
  refine pe_b (pe_10 (by assumption)) (fun _ _ _ => ?_)
  exact pe_190_12 (by assumption)
theorem pe_191 {F : wq_F} (h : F 56 11 = v) : pe v (dk_191 F) := by
  unfold dk_191
  refine pe_g (pe_r ?_)
  rw [wq_up_cell (by decide), wq_up_cell (by decide), wq_up_cell (by decide)]
  exact h
theorem pe_176 {F : wq_F} (h : F 56 11 = v) : pe v (dk_176 F) := by
  unfold dk_176
  exact pe_r (by assumption)
theorem pe_192_107 {n : Nat} {F : wq_F} {v1 : Nat} {v2 : Nat} (h : F 56 11 = v) : pe v (dk_192_107 n F v1 v2) := by
  unfold dk_192_107
  refine pe_u (by omega) (by assumption) (fun _ _ => ?_)
  refine pe_u (by omega) (by assumption) (fun _ _ => ?_)
  refine pe_b (pe_186 (by assumption)) (fun _ _ _ => ?_)
  refine pe_i ?_ ?_
  refine pe_b (pe_176 (by assumption)) (fun _ _ _ => ?_)
  refine pe_i ?_ ?_
  exact pe_r (by assumption)
  refine pe_u (by omega) (by assumption) (fun _ _ => ?_)
  refine pe_u (by omega) (by assumption) (fun _ _ => ?_)
  refine pe_b (pe_181 (by assumption)) (fun _ _ _ => ?_)
  refine pe_u (by omega) (by assumption) (fun _ _ => ?_)
  exact pe_r (by assumption)
  exact pe_r (by assumption)
theorem pe_193_18 {n : Nat} {F : wq_F} {v2 : Nat} (h : F 56 11 = v) : pe v (dk_193_18 n F v2) := by
  unfold dk_193_18
  refine pe_i ?_ ?_
  refine pe_b (pe_0 (by assumption)) (fun _ _ _ => ?_)
  exact pe_r (by assumption)
  refine pe_b (pe_0 (by assumption)) (fun _ _ _ => ?_)
  exact pe_r (by assumption)
theorem pe_193_115 {n : Nat} {F : wq_F} {v3 : Nat} {v4 : Nat} (h : F 56 11 = v) : pe v (dk_193_115 n F v3 v4) := by
  unfold dk_193_115
  refine pe_b (pe_0 (by assumption)) (fun _ _ _ => ?_)
  refine pe_i ?_ ?_
  exact pe_r (by assumption)
  exact pe_r (by assumption)
theorem pe_193_73b {n : Nat} {r73 : wq_F → Nat → Nat → Nat → Option (Nat × wq_F)} {F : wq_F} {v1 : Nat} {v3 : Nat} {v4 : Nat} (hr73 : ∀ K x0 x1 x2, K 56 11 = v → pe v (r73 K x0 x1 x2)) (h : F 56 11 = v) : pe v (dk_193_73b n r73 F v1 v3 v4) := by
  unfold dk_193_73b
  refine pe_i ?_ ?_
  refine pe_b (pe_186 (by assumption)) (fun _ _ _ => ?_)
  refine pe_b (pe_187 (by assumption)) (fun _ _ _ => ?_)
  refine pe_i ?_ ?_
  exact pe_193_115 (by assumption)
  refine pe_b (pe_186 (by assumption)) (fun _ _ _ => ?_)
  refine pe_l (fun _ => ?_)
  refine pe_l (fun _ => ?_)
  refine pe_l (fun _ => ?_)
  exact hr73 _ _ _ _ (by assumption)
  exact pe_193_115 (by assumption)
theorem pe_193_73 {n : Nat} {g : Nat} {F : wq_F} {x0 : Nat} {x1 : Nat} {x2 : Nat} (h : F 56 11 = v) : pe v (dk_193_73 n g F x0 x1 x2) := by
  induction g generalizing F x0 x1 x2 with
  | zero => exact pe_n
  | succ g ih =>
    exact pe_193_73b (fun K x0 x1 x2 h => by first | exact ih h | exact ih K x0 x1 x2 h) h
theorem pe_193 {n : Nat} {F : wq_F} {a0 : Nat} (h : F 56 11 = v) : pe v (dk_193 n F a0) := by
  unfold dk_193
  refine pe_b (pe_186 (by assumption)) (fun _ _ _ => ?_)
  refine pe_i ?_ ?_
  exact pe_193_18 (by assumption)
  refine pe_i ?_ ?_
  exact pe_193_18 (by assumption)
  refine pe_i ?_ ?_
  refine pe_b (pe_0 (by assumption)) (fun _ _ _ => ?_)
  exact pe_r (by assumption)
  refine pe_i ?_ ?_
  refine pe_b (pe_0 (by assumption)) (fun _ _ _ => ?_)
  exact pe_r (by assumption)
  refine pe_i ?_ ?_
  refine pe_b (pe_0 (by assumption)) (fun _ _ _ => ?_)
  exact pe_r (by assumption)
  exact pe_193_73 (by assumption)
theorem pe_192_24b {n : Nat} {r24 : wq_F → Nat → Nat → Option (Nat × wq_F)} {F : wq_F} {v1 : Nat} {v2 : Nat} (hr24 : ∀ K x0 x1, K 56 11 = v → pe v (r24 K x0 x1)) (h : F 56 11 = v) : pe v (dk_192_24b n r24 F v1 v2) := by
  unfold dk_192_24b
  refine pe_i ?_ ?_
  refine pe_g ?_
  refine pe_i ?_ ?_
  exact pe_192_107 (by assumption)
  refine pe_g ?_
  refine pe_i ?_ ?_
  exact pe_192_107 (by assumption)
  refine pe_g ?_
  refine pe_i ?_ ?_
  refine pe_b (pe_193 (by assumption)) (fun _ _ _ => ?_)
  refine pe_i ?_ ?_
  exact pe_192_107 (by assumption)
  refine pe_l (fun _ => ?_)
  exact hr24 _ _ _ (by assumption)
  refine pe_g ?_
  refine pe_b (pe_0 (by assumption)) (fun _ _ _ => ?_)
  refine pe_l (fun _ => ?_)
  exact hr24 _ _ _ (by assumption)
  exact pe_192_107 (by assumption)
theorem pe_192_24 {n : Nat} {g : Nat} {F : wq_F} {x0 : Nat} {x1 : Nat} (h : F 56 11 = v) : pe v (dk_192_24 n g F x0 x1) := by
  induction g generalizing F x0 x1 with
  | zero => exact pe_n
  | succ g ih =>
    exact pe_192_24b (fun K x0 x1 h => by first | exact ih h | exact ih K x0 x1 h) h
theorem pe_192 {n : Nat} {F : wq_F} (h : F 56 11 = v) : pe v (dk_192 n F) := by
  unfold dk_192
  refine pe_g ?_
  refine pe_b (pe_10 (by assumption)) (fun _ _ _ => ?_)
  exact pe_192_24 (by assumption)
theorem pe_77_28 {n : Nat} {F : wq_F} (h : F 56 11 = v) : pe v (dk_77_28 n F) := by
  unfold dk_77_28
  refine pe_b (pe_73 (by assumption)) (fun _ _ _ => ?_)
  refine pe_i ?_ ?_
  refine pe_b (pe_194 (by assumption)) (fun _ _ _ => ?_)
  exact pe_r (by assumption)
  refine pe_i ?_ ?_
  refine pe_b (pe_190 (by assumption)) (fun _ _ _ => ?_)
  exact pe_r (by assumption)
  refine pe_i ?_ ?_
  refine pe_b (pe_191 (by assumption)) (fun _ _ _ => ?_)
  exact pe_r (by assumption)
  refine pe_i ?_ ?_
  refine pe_b (pe_192 (by assumption)) (fun _ _ _ => ?_)
  exact pe_r (by assumption)
  exact pe_r (by assumption)
theorem pe_184 {F : wq_F} (h : F 56 11 = v) : pe v (dk_184 F) := by
  unfold dk_184
  refine pe_u (by omega) (by assumption) (fun _ _ => ?_)
  exact pe_r (by assumption)
theorem pe_109_60 {F : wq_F} (h : F 56 11 = v) : pe v (dk_109_60 F) := by
  unfold dk_109_60
  refine pe_u (by omega) (by assumption) (fun _ _ => ?_)
  refine pe_u (by omega) (by assumption) (fun _ _ => ?_)
  refine pe_b (pe_184 (by assumption)) (fun _ _ _ => ?_)
  exact pe_r (by assumption)
theorem pe_109_37 {F : wq_F} {v1 : Nat} (h : F 56 11 = v) : pe v (dk_109_37 F v1) := by
  unfold dk_109_37
  refine pe_i ?_ ?_
  refine pe_i ?_ ?_
  refine pe_u (by omega) (by assumption) (fun _ _ => ?_)
  exact pe_109_60 (by assumption)
  exact pe_109_60 (by assumption)
  exact pe_109_60 (by assumption)
theorem pe_109 {F : wq_F} {a0 : Nat} (h : F 56 11 = v) : pe v (dk_109 F a0) := by
  unfold dk_109
  refine pe_i ?_ ?_
  refine pe_u (by omega) (by assumption) (fun _ _ => ?_)
  refine pe_i ?_ ?_
  refine pe_i ?_ ?_
  refine pe_u (by omega) (by assumption) (fun _ _ => ?_)
  exact pe_109_60 (by assumption)
  exact pe_109_37 (by assumption)
  exact pe_109_37 (by assumption)
  exact pe_r (by assumption)
theorem pe_77 {n : Nat} {F : wq_F} (h : F 56 11 = v) : pe v (dk_77 n F) := by
  unfold dk_77
  refine pe_i ?_ ?_
  refine pe_i ?_ ?_
  exact pe_77_28 (by assumption)
  refine pe_b (pe_109 (by assumption)) (fun _ _ _ => ?_)
  exact pe_77_28 (by assumption)
  exact pe_77_28 (by assumption)
theorem pe_58 {F : wq_F} {a0 : Nat} {a1 : Nat} {a2 : Nat} {a3 : Nat} (h : F 56 11 = v) : pe v (dk_58 F a0 a1 a2 a3) := by
  unfold dk_58
  refine pe_i ?_ ?_
  refine pe_g ?_
  refine pe_u (by omega) (by assumption) (fun _ _ => ?_)
  refine pe_g ?_
  refine pe_u (by omega) (by assumption) (fun _ _ => ?_)
  refine pe_g ?_
  refine pe_u (by omega) (by assumption) (fun _ _ => ?_)
  refine pe_g ?_
  refine pe_u (by omega) (by assumption) (fun _ _ => ?_)
  refine pe_l (fun _ => ?_)
  refine pe_u (by omega) (by assumption) (fun _ _ => ?_)
  refine pe_l (fun _ => ?_)
  exact pe_r (by assumption)
  refine pe_l (fun _ => ?_)
  exact pe_r (by assumption)
theorem pe_78 {F : wq_F} {a0 : Nat} {a1 : Nat} {a2 : Nat} {a3 : Nat} (h : F 56 11 = v) : pe v (dk_78 F a0 a1 a2 a3) := by
  unfold dk_78
  refine pe_b (pe_58 (by assumption)) (fun _ _ _ => ?_)
  exact pe_r (by assumption)
theorem pe_79 {F : wq_F} (h : F 56 11 = v) : pe v (dk_79 F) := by
  unfold dk_79
  refine pe_l (fun _ => ?_)
  refine pe_i ?_ ?_
  exact pe_r (by assumption)
  refine pe_i ?_ ?_
  exact pe_r (by assumption)
  refine pe_i ?_ ?_
  exact pe_r (by assumption)
  refine pe_i ?_ ?_
  exact pe_r (by assumption)
  refine pe_i ?_ ?_
  exact pe_r (by assumption)
  refine pe_i ?_ ?_
  exact pe_r (by assumption)
  refine pe_i ?_ ?_
  exact pe_r (by assumption)
  refine pe_i ?_ ?_
  exact pe_r (by assumption)
  refine pe_i ?_ ?_
  exact pe_r (by assumption)
  refine pe_i ?_ ?_
  exact pe_r (by assumption)
  refine pe_i ?_ ?_
  exact pe_r (by assumption)
  exact pe_r (by assumption)
theorem pe_80_2b {R : dk_Rt} {n : Nat} {r2 : wq_F → Nat → Nat → Option (Nat × wq_F)} {F : wq_F} {v1 : Nat} {v2 : Nat} (hR : ∀ m as K w, K 56 11 = w → pe w (R m as K)) (hr2 : ∀ K x0 x1, K 56 11 = v → pe v (r2 K x0 x1)) (h : F 56 11 = v) : pe v (dk_80_2b R n r2 F v1 v2) := by
  unfold dk_80_2b
  refine pe_i ?_ ?_
  refine pe_i ?_ ?_
  refine pe_b (hR _ _ _ _ (by assumption)) (fun _ _ _ => ?_)
  exact pe_r (by assumption)
  exact pe_r (by assumption)
  refine pe_b (pe_79 (by assumption)) (fun _ _ _ => ?_)
  refine pe_i ?_ ?_
  refine pe_i ?_ ?_
  refine pe_b (hR _ _ _ _ (by assumption)) (fun _ _ _ => ?_)
  exact pe_r (by assumption)
  exact pe_r (by assumption)
  refine pe_b (hR _ _ _ _ (by assumption)) (fun _ _ _ => ?_)
  refine pe_l (fun _ => ?_)
  exact hr2 _ _ _ (by assumption)
theorem pe_80_2 {R : dk_Rt} {n : Nat} {g : Nat} {F : wq_F} {x0 : Nat} {x1 : Nat} (hR : ∀ m as K w, K 56 11 = w → pe w (R m as K)) (h : F 56 11 = v) : pe v (dk_80_2 R n g F x0 x1) := by
  induction g generalizing F x0 x1 with
  | zero => exact pe_n
  | succ g ih =>
    exact pe_80_2b hR (fun K x0 x1 h => by first | exact ih h | exact ih K x0 x1 h) h
theorem pe_80 {R : dk_Rt} {n : Nat} {F : wq_F} {a0 : Nat} (hR : ∀ m as K w, K 56 11 = w → pe w (R m as K)) (h : F 56 11 = v) : pe v (dk_80 R n F a0) := by
  unfold dk_80
  exact pe_80_2 hR (by assumption)
theorem pe_82 {F : wq_F} (h : F 56 11 = v) : pe v (dk_82 F) := by
  unfold dk_82
  refine pe_u (by omega) (by assumption) (fun _ _ => ?_)
  refine pe_u (by omega) (by assumption) (fun _ _ => ?_)
  exact pe_r (by assumption)
theorem pe_83 {F : wq_F} {a0 : Nat} (h : F 56 11 = v) : pe v (dk_83 F a0) := by
  unfold dk_83
  refine pe_u (by omega) (by assumption) (fun _ _ => ?_)
  refine pe_g ?_
  refine pe_u (by omega) (by assumption) (fun _ _ => ?_)
  refine pe_g ?_
  refine pe_u (by omega) (by assumption) (fun _ _ => ?_)
  refine pe_g ?_
  refine pe_u (by omega) (by assumption) (fun _ _ => ?_)
  refine pe_g ?_
  refine pe_u (by omega) (by assumption) (fun _ _ => ?_)
  exact pe_r (by assumption)
theorem pe_84 {F : wq_F} (h : F 56 11 = v) : pe v (dk_84 F) := by
  unfold dk_84
  refine pe_g ?_
  exact pe_r (by assumption)
theorem pe_110 {n : Nat} {F : wq_F} {a0 : Nat} (h : F 56 11 = v) : pe v (dk_110 n F a0) := by
  unfold dk_110
  refine pe_i ?_ ?_
  refine pe_b (pe_77 (by assumption)) (fun _ _ _ => ?_)
  exact pe_r (by assumption)
  refine pe_b (pe_109 (by assumption)) (fun _ _ _ => ?_)
  exact pe_r (by assumption)
theorem pe_111 {n : Nat} {F : wq_F} {a0 : Nat} (h : F 56 11 = v) : pe v (dk_111 n F a0) := by
  unfold dk_111
  refine pe_i ?_ ?_
  refine pe_i ?_ ?_
  exact pe_r (by assumption)
  refine pe_b (pe_77 (by assumption)) (fun _ _ _ => ?_)
  exact pe_r (by assumption)
  refine pe_i ?_ ?_
  exact pe_r (by assumption)
  refine pe_b (pe_77 (by assumption)) (fun _ _ _ => ?_)
  exact pe_r (by assumption)
theorem pe_163 {F : wq_F} {a0 : Nat} (h : F 56 11 = v) : pe v (dk_163 F a0) := by
  unfold dk_163
  refine pe_g ?_
  refine pe_l (fun _ => ?_)
  refine pe_g ?_
  refine pe_u (by omega) (by assumption) (fun _ _ => ?_)
  exact pe_r (by assumption)
theorem pe_112 {F : wq_F} {a0 : Nat} {a1 : Nat} {a2 : Nat} {a3 : Nat} (h : F 56 11 = v) : pe v (dk_112 F a0 a1 a2 a3) := by
  unfold dk_112
  refine pe_b (pe_78 (by assumption)) (fun _ _ _ => ?_)
  refine pe_b (pe_163 (by assumption)) (fun _ _ _ => ?_)
  exact pe_r (by assumption)
theorem pe_162 {F : wq_F} {a0 : Nat} (h : F 56 11 = v) : pe v (dk_162 F a0) := by
  unfold dk_162
  refine pe_g ?_
  refine pe_u (by omega) (by assumption) (fun _ _ => ?_)
  exact pe_r (by assumption)
theorem pe_113 {F : wq_F} {a0 : Nat} (h : F 56 11 = v) : pe v (dk_113 F a0) := by
  unfold dk_113
  refine pe_b (pe_78 (by assumption)) (fun _ _ _ => ?_)
  refine pe_b (pe_162 (by assumption)) (fun _ _ _ => ?_)
  exact pe_r (by assumption)
theorem pe_146 {F : wq_F} (h : F 56 11 = v) : pe v (dk_146 F) := by
  unfold dk_146
  refine pe_l (fun _ => ?_)
  refine pe_i ?_ ?_
  exact pe_r (by assumption)
  refine pe_i ?_ ?_
  exact pe_r (by assumption)
  refine pe_i ?_ ?_
  exact pe_r (by assumption)
  refine pe_i ?_ ?_
  exact pe_r (by assumption)
  exact pe_r (by assumption)
theorem pe_114 {F : wq_F} (h : F 56 11 = v) : pe v (dk_114 F) := by
  unfold dk_114
  refine pe_l (fun _ => ?_)
  refine pe_i ?_ ?_
  exact pe_r (by assumption)
  refine pe_i ?_ ?_
  exact pe_r (by assumption)
  refine pe_i ?_ ?_
  exact pe_r (by assumption)
  refine pe_i ?_ ?_
  exact pe_r (by assumption)
  refine pe_i ?_ ?_
  exact pe_r (by assumption)
  refine pe_i ?_ ?_
  exact pe_r (by assumption)
  refine pe_i ?_ ?_
  exact pe_r (by assumption)
  refine pe_i ?_ ?_
  exact pe_r (by assumption)
  refine pe_i ?_ ?_
  exact pe_r (by assumption)
  refine pe_i ?_ ?_
  exact pe_r (by assumption)
  refine pe_b (pe_146 (by assumption)) (fun _ _ _ => ?_)
  refine pe_i ?_ ?_
  exact pe_r (by assumption)
  exact pe_r (by assumption)
theorem pe_168 {F : wq_F} {a0 : Nat} (h : F 56 11 = v) : pe v (dk_168 F a0) := by
  unfold dk_168
  refine pe_u (by omega) (by assumption) (fun _ _ => ?_)
  exact pe_r (by assumption)
theorem pe_115 {R : dk_Rt} {n : Nat} {F : wq_F} {a0 : Nat} (hR : ∀ m as K w, K 56 11 = w → pe w (R m as K)) (h : F 56 11 = v) : pe v (dk_115 R n F a0) := by
  unfold dk_115
  refine pe_b (pe_84 (by assumption)) (fun _ _ _ => ?_)
  refine pe_b (hR _ _ _ _ (by assumption)) (fun _ _ _ => ?_)
  refine pe_b (pe_168 (by assumption)) (fun _ _ _ => ?_)
  refine pe_b (pe_84 (by assumption)) (fun _ _ _ => ?_)
  refine pe_i ?_ ?_
  exact pe_r (by assumption)
  refine pe_b (pe_113 (by assumption)) (fun _ _ _ => ?_)
  exact pe_r (by assumption)
theorem pe_164 {F : wq_F} (h : F 56 11 = v) : pe v (dk_164 F) := by
  unfold dk_164
  refine pe_g ?_
  exact pe_r (by assumption)
theorem pe_165 {F : wq_F} {a0 : Nat} (h : F 56 11 = v) : pe v (dk_165 F a0) := by
  unfold dk_165
  refine pe_g ?_
  refine pe_u (by omega) (by assumption) (fun _ _ => ?_)
  exact pe_r (by assumption)
theorem pe_118 {n : Nat} {F : wq_F} (h : F 56 11 = v) : pe v (dk_118 n F) := by
  unfold dk_118
  refine pe_b (pe_164 (by assumption)) (fun _ _ _ => ?_)
  refine pe_i ?_ ?_
  refine pe_b (pe_109 (by assumption)) (fun _ _ _ => ?_)
  exact pe_r (by assumption)
  refine pe_b (pe_77 (by assumption)) (fun _ _ _ => ?_)
  refine pe_b (pe_164 (by assumption)) (fun _ _ _ => ?_)
  refine pe_b (pe_78 (by assumption)) (fun _ _ _ => ?_)
  refine pe_b (pe_165 (by assumption)) (fun _ _ _ => ?_)
  exact pe_r (by assumption)
theorem pe_116 {R : dk_Rt} {n : Nat} {F : wq_F} {a0 : Nat} (hR : ∀ m as K w, K 56 11 = w → pe w (R m as K)) (h : F 56 11 = v) : pe v (dk_116 R n F a0) := by
  unfold dk_116
  refine pe_i ?_ ?_
  refine pe_b (pe_109 (by assumption)) (fun _ _ _ => ?_)
  exact pe_r (by assumption)
  refine pe_b (pe_111 (by assumption)) (fun _ _ _ => ?_)
  refine pe_i ?_ ?_
  refine pe_b (pe_78 (by assumption)) (fun _ _ _ => ?_)
  refine pe_l (fun _ => ?_)
  refine pe_i ?_ ?_
  refine pe_b (pe_118 (by assumption)) (fun _ _ _ => ?_)
  exact pe_r (by assumption)
  refine pe_i ?_ ?_
  refine pe_b (pe_77 (by assumption)) (fun _ _ _ => ?_)
  refine pe_b (hR _ _ _ _ (by assumption)) (fun _ _ _ => ?_)
  refine pe_b (pe_110 (by assumption)) (fun _ _ _ => ?_)
  exact pe_r (by assumption)
  refine pe_i ?_ ?_
  refine pe_b (hR _ _ _ _ (by assumption)) (fun _ _ _ => ?_)
  exact pe_r (by assumption)
  refine pe_i ?_ ?_
  refine pe_b (hR _ _ _ _ (by assumption)) (fun _ _ _ => ?_)
  exact pe_r (by assumption)
  refine pe_i ?_ ?_
  refine pe_b (hR _ _ _ _ (by assumption)) (fun _ _ _ => ?_)
  exact pe_r (by assumption)
  refine pe_i ?_ ?_
  refine pe_b (hR _ _ _ _ (by assumption)) (fun _ _ _ => ?_)
  exact pe_r (by assumption)
  refine pe_i ?_ ?_
  refine pe_b (hR _ _ _ _ (by assumption)) (fun _ _ _ => ?_)
  exact pe_r (by assumption)
  refine pe_i ?_ ?_
  refine pe_b (hR _ _ _ _ (by assumption)) (fun _ _ _ => ?_)
  exact pe_r (by assumption)
  refine pe_i ?_ ?_
  refine pe_b (hR _ _ _ _ (by assumption)) (fun _ _ _ => ?_)
  exact pe_r (by assumption)
  refine pe_i ?_ ?_
  refine pe_b (hR _ _ _ _ (by assumption)) (fun _ _ _ => ?_)
  exact pe_r (by assumption)
  refine pe_i ?_ ?_
  refine pe_b (hR _ _ _ _ (by assumption)) (fun _ _ _ => ?_)
  exact pe_r (by assumption)
  refine pe_i ?_ ?_
  refine pe_b (hR _ _ _ _ (by assumption)) (fun _ _ _ => ?_)
  exact pe_r (by assumption)
  refine pe_i ?_ ?_
  refine pe_b (hR _ _ _ _ (by assumption)) (fun _ _ _ => ?_)
  exact pe_r (by assumption)
  refine pe_i ?_ ?_
  refine pe_b (hR _ _ _ _ (by assumption)) (fun _ _ _ => ?_)
  exact pe_r (by assumption)
  refine pe_i ?_ ?_
  refine pe_b (hR _ _ _ _ (by assumption)) (fun _ _ _ => ?_)
  exact pe_r (by assumption)
  refine pe_i ?_ ?_
  refine pe_b (hR _ _ _ _ (by assumption)) (fun _ _ _ => ?_)
  exact pe_r (by assumption)
  refine pe_i ?_ ?_
  refine pe_b (hR _ _ _ _ (by assumption)) (fun _ _ _ => ?_)
  exact pe_r (by assumption)
  refine pe_i ?_ ?_
  refine pe_b (hR _ _ _ _ (by assumption)) (fun _ _ _ => ?_)
  exact pe_r (by assumption)
  refine pe_i ?_ ?_
  refine pe_b (hR _ _ _ _ (by assumption)) (fun _ _ _ => ?_)
  exact pe_r (by assumption)
  refine pe_i ?_ ?_
  refine pe_b (hR _ _ _ _ (by assumption)) (fun _ _ _ => ?_)
  exact pe_r (by assumption)
  refine pe_b (hR _ _ _ _ (by assumption)) (fun _ _ _ => ?_)
  exact pe_r (by assumption)
  exact pe_r (by assumption)
theorem pe_117_42 {R : dk_Rt} {n : Nat} {F : wq_F} {v2 : Nat} {v3 : Nat} (hR : ∀ m as K w, K 56 11 = w → pe w (R m as K)) (h : F 56 11 = v) : pe v (dk_117_42 R n F v2 v3) := by
  unfold dk_117_42
  refine pe_b (pe_78 (by assumption)) (fun _ _ _ => ?_)
  refine pe_b (pe_162 (by assumption)) (fun _ _ _ => ?_)
  refine pe_b (pe_111 (by assumption)) (fun _ _ _ => ?_)
  exact pe_r (by assumption)
theorem pe_117 {R : dk_Rt} {n : Nat} {F : wq_F} {a0 : Nat} (hR : ∀ m as K w, K 56 11 = w → pe w (R m as K)) (h : F 56 11 = v) : pe v (dk_117 R n F a0) := by
  unfold dk_117
  refine pe_b (pe_84 (by assumption)) (fun _ _ _ => ?_)
  refine pe_b (pe_78 (by assumption)) (fun _ _ _ => ?_)
  refine pe_b (pe_77 (by assumption)) (fun _ _ _ => ?_)
  refine pe_b (pe_114 (by assumption)) (fun _ _ _ => ?_)
  refine pe_i ?_ ?_
  exact pe_117_42 hR (by assumption)
  refine pe_b (hR _ _ _ _ (by assumption)) (fun _ _ _ => ?_)
  exact pe_117_42 hR (by assumption)
theorem pe_159_4b {n : Nat} {r4 : wq_F → Nat → Nat → Option (Nat × wq_F)} {F : wq_F} {v2 : Nat} {v3 : Nat} (hr4 : ∀ K x0 x1, K 56 11 = v → pe v (r4 K x0 x1)) (h : F 56 11 = v) : pe v (dk_159_4b n r4 F v2 v3) := by
  unfold dk_159_4b
  refine pe_i ?_ ?_
  refine pe_i ?_ ?_
  exact pe_r (by assumption)
  refine pe_g ?_
  refine pe_g ?_
  refine pe_u (by omega) (by assumption) (fun _ _ => ?_)
  refine pe_l (fun _ => ?_)
  exact hr4 _ _ _ (by assumption)
  exact pe_r (by assumption)
theorem pe_159_4 {n : Nat} {g : Nat} {F : wq_F} {x0 : Nat} {x1 : Nat} (h : F 56 11 = v) : pe v (dk_159_4 n g F x0 x1) := by
  induction g generalizing F x0 x1 with
  | zero => exact pe_n
  | succ g ih =>
    exact pe_159_4b (fun K x0 x1 h => by first | exact ih h | exact ih K x0 x1 h) h
theorem pe_159 {n : Nat} {F : wq_F} {a0 : Nat} (h : F 56 11 = v) : pe v (dk_159 n F a0) := by
  unfold dk_159
  exact pe_159_4 (by assumption)
theorem pe_120 {n : Nat} {F : wq_F} {a0 : Nat} {a1 : Nat} (h : F 56 11 = v) : pe v (dk_120 n F a0 a1) := by
  unfold dk_120
  refine pe_b (pe_164 (by assumption)) (fun _ _ _ => ?_)
  refine pe_b (pe_159 (by assumption)) (fun _ _ _ => ?_)
  refine pe_b (pe_165 (by assumption)) (fun _ _ _ => ?_)
  refine pe_b (pe_113 (by assumption)) (fun _ _ _ => ?_)
  exact pe_r (by assumption)
theorem pe_119 {R : dk_Rt} {n : Nat} {F : wq_F} {a0 : Nat} (hR : ∀ m as K w, K 56 11 = w → pe w (R m as K)) (h : F 56 11 = v) : pe v (dk_119 R n F a0) := by
  unfold dk_119
  refine pe_b (pe_164 (by assumption)) (fun _ _ _ => ?_)
  refine pe_b (pe_84 (by assumption)) (fun _ _ _ => ?_)
  refine pe_b (pe_77 (by assumption)) (fun _ _ _ => ?_)
  refine pe_b (pe_78 (by assumption)) (fun _ _ _ => ?_)
  refine pe_b (hR _ _ _ _ (by assumption)) (fun _ _ _ => ?_)
  refine pe_b (pe_78 (by assumption)) (fun _ _ _ => ?_)
  refine pe_b (pe_165 (by assumption)) (fun _ _ _ => ?_)
  refine pe_b (pe_163 (by assumption)) (fun _ _ _ => ?_)
  refine pe_b (pe_110 (by assumption)) (fun _ _ _ => ?_)
  refine pe_b (hR _ _ _ _ (by assumption)) (fun _ _ _ => ?_)
  refine pe_b (pe_110 (by assumption)) (fun _ _ _ => ?_)
  refine pe_b (pe_78 (by assumption)) (fun _ _ _ => ?_)
  refine pe_b (pe_120 (by assumption)) (fun _ _ _ => ?_)
  exact pe_r (by assumption)
theorem pe_121 {R : dk_Rt} {n : Nat} {F : wq_F} {a0 : Nat} (hR : ∀ m as K w, K 56 11 = w → pe w (R m as K)) (h : F 56 11 = v) : pe v (dk_121 R n F a0) := by
  unfold dk_121
  refine pe_b (pe_164 (by assumption)) (fun _ _ _ => ?_)
  refine pe_b (pe_84 (by assumption)) (fun _ _ _ => ?_)
  refine pe_b (pe_77 (by assumption)) (fun _ _ _ => ?_)
  refine pe_b (pe_165 (by assumption)) (fun _ _ _ => ?_)
  refine pe_b (hR _ _ _ _ (by assumption)) (fun _ _ _ => ?_)
  refine pe_b (pe_110 (by assumption)) (fun _ _ _ => ?_)
  refine pe_b (pe_78 (by assumption)) (fun _ _ _ => ?_)
  refine pe_b (hR _ _ _ _ (by assumption)) (fun _ _ _ => ?_)
  refine pe_b (pe_78 (by assumption)) (fun _ _ _ => ?_)
  refine pe_b (pe_164 (by assumption)) (fun _ _ _ => ?_)
  refine pe_b (pe_78 (by assumption)) (fun _ _ _ => ?_)
  refine pe_b (pe_165 (by assumption)) (fun _ _ _ => ?_)
  refine pe_b (pe_159 (by assumption)) (fun _ _ _ => ?_)
  refine pe_b (pe_113 (by assumption)) (fun _ _ _ => ?_)
  refine pe_b (pe_78 (by assumption)) (fun _ _ _ => ?_)
  refine pe_b (pe_168 (by assumption)) (fun _ _ _ => ?_)
  refine pe_b (pe_120 (by assumption)) (fun _ _ _ => ?_)
  exact pe_r (by assumption)
theorem pe_122_112 {R : dk_Rt} {n : Nat} {F : wq_F} {v2 : Nat} {v3 : Nat} (hR : ∀ m as K w, K 56 11 = w → pe w (R m as K)) (h : F 56 11 = v) : pe v (dk_122_112 R n F v2 v3) := by
  unfold dk_122_112
  refine pe_b (pe_110 (by assumption)) (fun _ _ _ => ?_)
  refine pe_b (pe_159 (by assumption)) (fun _ _ _ => ?_)
  refine pe_b (pe_159 (by assumption)) (fun _ _ _ => ?_)
  exact pe_r (by assumption)
theorem pe_122_69 {R : dk_Rt} {n : Nat} {F : wq_F} {v1 : Nat} {v2 : Nat} {v3 : Nat} (hR : ∀ m as K w, K 56 11 = w → pe w (R m as K)) (h : F 56 11 = v) : pe v (dk_122_69 R n F v1 v2 v3) := by
  unfold dk_122_69
  refine pe_i ?_ ?_
  refine pe_b (pe_78 (by assumption)) (fun _ _ _ => ?_)
  refine pe_b (pe_159 (by assumption)) (fun _ _ _ => ?_)
  refine pe_b (pe_77 (by assumption)) (fun _ _ _ => ?_)
  refine pe_b (hR _ _ _ _ (by assumption)) (fun _ _ _ => ?_)
  exact pe_122_112 hR (by assumption)
  exact pe_122_112 hR (by assumption)
theorem pe_122_15b {R : dk_Rt} {n : Nat} {r15 : wq_F → Nat → Nat → Nat → Nat → Option (Nat × wq_F)} {F : wq_F} {v1 : Nat} {v2 : Nat} {v3 : Nat} {v4 : Nat} (hR : ∀ m as K w, K 56 11 = w → pe w (R m as K)) (hr15 : ∀ K x0 x1 x2 x3, K 56 11 = v → pe v (r15 K x0 x1 x2 x3)) (h : F 56 11 = v) : pe v (dk_122_15b R n r15 F v1 v2 v3 v4) := by
  unfold dk_122_15b
  refine pe_i ?_ ?_
  exact pe_122_69 hR (by assumption)
  refine pe_i ?_ ?_
  refine pe_b (pe_78 (by assumption)) (fun _ _ _ => ?_)
  refine pe_b (pe_159 (by assumption)) (fun _ _ _ => ?_)
  refine pe_b (pe_77 (by assumption)) (fun _ _ _ => ?_)
  refine pe_b (hR _ _ _ _ (by assumption)) (fun _ _ _ => ?_)
  refine pe_l (fun _ => ?_)
  exact hr15 _ _ _ _ _ (by assumption)
  exact pe_122_69 hR (by assumption)
theorem pe_122_15 {R : dk_Rt} {n : Nat} {g : Nat} {F : wq_F} {x0 : Nat} {x1 : Nat} {x2 : Nat} {x3 : Nat} (hR : ∀ m as K w, K 56 11 = w → pe w (R m as K)) (h : F 56 11 = v) : pe v (dk_122_15 R n g F x0 x1 x2 x3) := by
  induction g generalizing F x0 x1 x2 x3 with
  | zero => exact pe_n
  | succ g ih =>
    exact pe_122_15b hR (fun K x0 x1 x2 x3 h => by first | exact ih h | exact ih K x0 x1 x2 x3 h) h
theorem pe_122 {R : dk_Rt} {n : Nat} {F : wq_F} {a0 : Nat} (hR : ∀ m as K w, K 56 11 = w → pe w (R m as K)) (h : F 56 11 = v) : pe v (dk_122 R n F a0) := by
  unfold dk_122
  refine pe_b (pe_77 (by assumption)) (fun _ _ _ => ?_)
  refine pe_b (hR _ _ _ _ (by assumption)) (fun _ _ _ => ?_)
  exact pe_122_15 hR (by assumption)
theorem pe_123 {R : dk_Rt} {n : Nat} {F : wq_F} {a0 : Nat} (hR : ∀ m as K w, K 56 11 = w → pe w (R m as K)) (h : F 56 11 = v) : pe v (dk_123 R n F a0) := by
  unfold dk_123
  refine pe_b (hR _ _ _ _ (by assumption)) (fun _ _ _ => ?_)
  refine pe_b (pe_110 (by assumption)) (fun _ _ _ => ?_)
  refine pe_b (pe_78 (by assumption)) (fun _ _ _ => ?_)
  refine pe_b (pe_163 (by assumption)) (fun _ _ _ => ?_)
  refine pe_b (hR _ _ _ _ (by assumption)) (fun _ _ _ => ?_)
  exact pe_r (by assumption)
theorem pe_166 {F : wq_F} {a0 : Nat} (h : F 56 11 = v) : pe v (dk_166 F a0) := by
  unfold dk_166
  refine pe_g ?_
  refine pe_g ?_
  refine pe_i ?_ ?_
  refine pe_i ?_ ?_
  refine pe_g ?_
  refine pe_l (fun _ => ?_)
  refine pe_g ?_
  refine pe_u (by omega) (by assumption) (fun _ _ => ?_)
  refine pe_g ?_
  refine pe_u (by omega) (by assumption) (fun _ _ => ?_)
  refine pe_g ?_
  refine pe_u (by omega) (by assumption) (fun _ _ => ?_)
  refine pe_l (fun _ => ?_)
  refine pe_u (by omega) (by assumption) (fun _ _ => ?_)
  exact pe_r (by assumption)
  exact pe_r (by assumption)
  exact pe_r (by assumption)
theorem pe_124 {F : wq_F} (h : F 56 11 = v) : pe v (dk_124 F) := by
  unfold dk_124
  refine pe_i ?_ ?_
  refine pe_b (pe_166 (by assumption)) (fun _ _ _ => ?_)
  refine pe_i ?_ ?_
  refine pe_b (pe_109 (by assumption)) (fun _ _ _ => ?_)
  exact pe_r (by assumption)
  exact pe_r (by assumption)
  refine pe_b (pe_109 (by assumption)) (fun _ _ _ => ?_)
  exact pe_r (by assumption)
theorem pe_125_2b {n : Nat} {r2 : wq_F → Nat → Option (Nat × wq_F)} {F : wq_F} {v1 : Nat} (hr2 : ∀ K x0, K 56 11 = v → pe v (r2 K x0)) (h : F 56 11 = v) : pe v (dk_125_2b n r2 F v1) := by
  unfold dk_125_2b
  refine pe_i ?_ ?_
  exact pe_r (by assumption)
  refine pe_i ?_ ?_
  refine pe_b (pe_77 (by assumption)) (fun _ _ _ => ?_)
  refine pe_b (pe_124 (by assumption)) (fun _ _ _ => ?_)
  refine pe_b (pe_77 (by assumption)) (fun _ _ _ => ?_)
  refine pe_l (fun _ => ?_)
  exact hr2 _ _ (by assumption)
  exact pe_r (by assumption)
theorem pe_125_2 {n : Nat} {g : Nat} {F : wq_F} {x0 : Nat} (h : F 56 11 = v) : pe v (dk_125_2 n g F x0) := by
  induction g generalizing F x0 with
  | zero => exact pe_n
  | succ g ih =>
    exact pe_125_2b (fun K x0 h => by first | exact ih h | exact ih K x0 h) h
theorem pe_125 {n : Nat} {F : wq_F} (h : F 56 11 = v) : pe v (dk_125 n F) := by
  unfold dk_125
  exact pe_125_2 (by assumption)
theorem pe_126 {R : dk_Rt} {n : Nat} {F : wq_F} {a0 : Nat} (hR : ∀ m as K w, K 56 11 = w → pe w (R m as K)) (h : F 56 11 = v) : pe v (dk_126 R n F a0) := by
  unfold dk_126
  refine pe_b (pe_77 (by assumption)) (fun _ _ _ => ?_)
  refine pe_b (pe_124 (by assumption)) (fun _ _ _ => ?_)
  refine pe_b (pe_77 (by assumption)) (fun _ _ _ => ?_)
  refine pe_i ?_ ?_
  refine pe_b (hR _ _ _ _ (by assumption)) (fun _ _ _ => ?_)
  refine pe_b (pe_168 (by assumption)) (fun _ _ _ => ?_)
  exact pe_r (by assumption)
  refine pe_b (pe_125 (by assumption)) (fun _ _ _ => ?_)
  refine pe_b (hR _ _ _ _ (by assumption)) (fun _ _ _ => ?_)
  refine pe_b (pe_168 (by assumption)) (fun _ _ _ => ?_)
  exact pe_r (by assumption)
theorem pe_157 {F : wq_F} {a0 : Nat} (h : F 56 11 = v) : pe v (dk_157 F a0) := by
  unfold dk_157
  refine pe_i ?_ ?_
  refine pe_g ?_
  refine pe_u (by omega) (by assumption) (fun _ _ => ?_)
  refine pe_u (by omega) (by assumption) (fun _ _ => ?_)
  refine pe_l (fun _ => ?_)
  exact pe_r (by assumption)
  exact pe_r (by assumption)
theorem pe_167_2b {n : Nat} {r2 : wq_F → Nat → Nat → Nat → Option (Nat × wq_F)} {F : wq_F} {v1 : Nat} {v2 : Nat} {v3 : Nat} (hr2 : ∀ K x0 x1 x2, K 56 11 = v → pe v (r2 K x0 x1 x2)) (h : F 56 11 = v) : pe v (dk_167_2b n r2 F v1 v2 v3) := by
  unfold dk_167_2b
  refine pe_i ?_ ?_
  refine pe_l (fun _ => ?_)
  refine pe_g ?_
  refine pe_u (by omega) (by assumption) (fun _ _ => ?_)
  refine pe_l (fun _ => ?_)
  exact hr2 _ _ _ _ (by assumption)
  exact pe_r (by assumption)
theorem pe_167_2 {n : Nat} {g : Nat} {F : wq_F} {x0 : Nat} {x1 : Nat} {x2 : Nat} (h : F 56 11 = v) : pe v (dk_167_2 n g F x0 x1 x2) := by
  induction g generalizing F x0 x1 x2 with
  | zero => exact pe_n
  | succ g ih =>
    exact pe_167_2b (fun K x0 x1 x2 h => by first | exact ih h | exact ih K x0 x1 x2 h) h
theorem pe_167 {n : Nat} {F : wq_F} {a0 : Nat} {a1 : Nat} (h : F 56 11 = v) : pe v (dk_167 n F a0 a1) := by
  unfold dk_167
  exact pe_167_2 (by assumption)
theorem pe_127_82 {R : dk_Rt} {n : Nat} {F : wq_F} {v1 : Nat} {v2 : Nat} {v3 : Nat} {v4 : Nat} {v5 : Nat} (hR : ∀ m as K w, K 56 11 = w → pe w (R m as K)) (h : F 56 11 = v) : pe v (dk_127_82 R n F v1 v2 v3 v4 v5) := by
  unfold dk_127_82
  refine pe_b (pe_78 (by assumption)) (fun _ _ _ => ?_)
  refine pe_b (pe_78 (by assumption)) (fun _ _ _ => ?_)
  refine pe_b (pe_78 (by assumption)) (fun _ _ _ => ?_)
  refine pe_b (pe_165 (by assumption)) (fun _ _ _ => ?_)
  refine pe_b (pe_110 (by assumption)) (fun _ _ _ => ?_)
  refine pe_b (pe_162 (by assumption)) (fun _ _ _ => ?_)
  refine pe_b (pe_167 (by assumption)) (fun _ _ _ => ?_)
  refine pe_b (hR _ _ _ _ (by assumption)) (fun _ _ _ => ?_)
  refine pe_b (pe_110 (by assumption)) (fun _ _ _ => ?_)
  refine pe_b (pe_113 (by assumption)) (fun _ _ _ => ?_)
  refine pe_b (pe_78 (by assumption)) (fun _ _ _ => ?_)
  refine pe_b (pe_120 (by assumption)) (fun _ _ _ => ?_)
  exact pe_r (by assumption)
theorem pe_127 {R : dk_Rt} {n : Nat} {F : wq_F} {a0 : Nat} {a1 : Nat} {a2 : Nat} (hR : ∀ m as K w, K 56 11 = w → pe w (R m as K)) (h : F 56 11 = v) : pe v (dk_127 R n F a0 a1 a2) := by
  unfold dk_127
  refine pe_b (pe_164 (by assumption)) (fun _ _ _ => ?_)
  refine pe_b (pe_84 (by assumption)) (fun _ _ _ => ?_)
  refine pe_b (pe_77 (by assumption)) (fun _ _ _ => ?_)
  refine pe_b (hR _ _ _ _ (by assumption)) (fun _ _ _ => ?_)
  refine pe_b (pe_110 (by assumption)) (fun _ _ _ => ?_)
  refine pe_b (hR _ _ _ _ (by assumption)) (fun _ _ _ => ?_)
  refine pe_b (pe_111 (by assumption)) (fun _ _ _ => ?_)
  refine pe_i ?_ ?_
  refine pe_b (pe_157 (by assumption)) (fun _ _ _ => ?_)
  refine pe_b (pe_112 (by assumption)) (fun _ _ _ => ?_)
  exact pe_127_82 hR (by assumption)
  refine pe_b (hR _ _ _ _ (by assumption)) (fun _ _ _ => ?_)
  exact pe_127_82 hR (by assumption)
theorem pe_129_26 {F : wq_F} {v2 : Nat} {v3 : Nat} {v4 : Nat} (h : F 56 11 = v) : pe v (dk_129_26 F v2 v3 v4) := by
  unfold dk_129_26
  refine pe_b (pe_78 (by assumption)) (fun _ _ _ => ?_)
  refine pe_b (pe_162 (by assumption)) (fun _ _ _ => ?_)
  exact pe_r (by assumption)
theorem pe_129_12 {F : wq_F} {v1 : Nat} {v2 : Nat} {v3 : Nat} {v4 : Nat} {s0 : Nat} (h : F 56 11 = v) : pe v (dk_129_12 F v1 v2 v3 v4 s0) := by
  unfold dk_129_12
  refine pe_i ?_ ?_
  refine pe_i ?_ ?_
  refine pe_b (pe_162 (by assumption)) (fun _ _ _ => ?_)
  exact pe_r (by assumption)
  exact pe_129_26 (by assumption)
  exact pe_129_26 (by assumption)
theorem pe_129 {F : wq_F} {a0 : Nat} {a1 : Nat} {a2 : Nat} {a3 : Nat} (h : F 56 11 = v) : pe v (dk_129 F a0 a1 a2 a3) := by
  unfold dk_129
  refine pe_i ?_ ?_
  exact pe_129_12 (by assumption)
  exact pe_129_12 (by assumption)
theorem pe_128_80b {R : dk_Rt} {n : Nat} {r80 : wq_F → Nat → Nat → Nat → Nat → Nat → Nat → Nat → Nat → Option (Nat × wq_F)} {F : wq_F} {v1 : Nat} {v2 : Nat} {v3 : Nat} {v4 : Nat} {v5 : Nat} {v6 : Nat} {v7 : Nat} {v8 : Nat} (hR : ∀ m as K w, K 56 11 = w → pe w (R m as K)) (hr80 : ∀ K x0 x1 x2 x3 x4 x5 x6 x7, K 56 11 = v → pe v (r80 K x0 x1 x2 x3 x4 x5 x6 x7)) (h : F 56 11 = v) : pe v (dk_128_80b R n r80 F v1 v2 v3 v4 v5 v6 v7 v8) := by
  unfold dk_128_80b
  refine pe_i ?_ ?_
  refine pe_b (pe_78 (by assumption)) (fun _ _ _ => ?_)
  refine pe_l (fun _ => ?_)
  exact hr80 _ _ _ _ _ _ _ _ _ (by assumption)
  refine pe_b (pe_78 (by assumption)) (fun _ _ _ => ?_)
  refine pe_b (pe_78 (by assumption)) (fun _ _ _ => ?_)
  refine pe_b (pe_165 (by assumption)) (fun _ _ _ => ?_)
  refine pe_b (pe_110 (by assumption)) (fun _ _ _ => ?_)
  refine pe_l (fun _ => ?_)
  refine pe_b (pe_162 (by assumption)) (fun _ _ _ => ?_)
  refine pe_b (pe_167 (by assumption)) (fun _ _ _ => ?_)
  refine pe_b (hR _ _ _ _ (by assumption)) (fun _ _ _ => ?_)
  refine pe_b (pe_110 (by assumption)) (fun _ _ _ => ?_)
  refine pe_b (pe_113 (by assumption)) (fun _ _ _ => ?_)
  refine pe_b (pe_78 (by assumption)) (fun _ _ _ => ?_)
  refine pe_b (pe_120 (by assumption)) (fun _ _ _ => ?_)
  exact pe_r (by assumption)
theorem pe_128_80 {R : dk_Rt} {n : Nat} {g : Nat} {F : wq_F} {x0 : Nat} {x1 : Nat} {x2 : Nat} {x3 : Nat} {x4 : Nat} {x5 : Nat} {x6 : Nat} {x7 : Nat} (hR : ∀ m as K w, K 56 11 = w → pe w (R m as K)) (h : F 56 11 = v) : pe v (dk_128_80 R n g F x0 x1 x2 x3 x4 x5 x6 x7) := by
  induction g generalizing F x0 x1 x2 x3 x4 x5 x6 x7 with
  | zero => exact pe_n
  | succ g ih =>
    exact pe_128_80b hR (fun K x0 x1 x2 x3 x4 x5 x6 x7 h => by first | exact ih h | exact ih K x0 x1 x2 x3 x4 x5 x6 x7 h) h
theorem pe_128 {R : dk_Rt} {n : Nat} {F : wq_F} {a0 : Nat} {a1 : Nat} (hR : ∀ m as K w, K 56 11 = w → pe w (R m as K)) (h : F 56 11 = v) : pe v (dk_128 R n F a0 a1) := by
  unfold dk_128
  refine pe_b (pe_164 (by assumption)) (fun _ _ _ => ?_)
  refine pe_b (pe_84 (by assumption)) (fun _ _ _ => ?_)
  refine pe_l (fun _ => ?_)
  refine pe_b (pe_110 (by assumption)) (fun _ _ _ => ?_)
  refine pe_b (hR _ _ _ _ (by assumption)) (fun _ _ _ => ?_)
  refine pe_b (pe_129 (by assumption)) (fun _ _ _ => ?_)
  refine pe_b (pe_78 (by assumption)) (fun _ _ _ => ?_)
  exact pe_128_80 hR (by assumption)
theorem pe_130 {R : dk_Rt} {n : Nat} {F : wq_F} {a0 : Nat} (hR : ∀ m as K w, K 56 11 = w → pe w (R m as K)) (h : F 56 11 = v) : pe v (dk_130 R n F a0) := by
  unfold dk_130
  refine pe_b (pe_84 (by assumption)) (fun _ _ _ => ?_)
  refine pe_b (pe_77 (by assumption)) (fun _ _ _ => ?_)
  refine pe_b (pe_111 (by assumption)) (fun _ _ _ => ?_)
  refine pe_i ?_ ?_
  refine pe_b (pe_124 (by assumption)) (fun _ _ _ => ?_)
  refine pe_b (pe_77 (by assumption)) (fun _ _ _ => ?_)
  refine pe_b (pe_125 (by assumption)) (fun _ _ _ => ?_)
  refine pe_l (fun _ => ?_)
  refine pe_b (pe_111 (by assumption)) (fun _ _ _ => ?_)
  refine pe_i ?_ ?_
  refine pe_b (pe_112 (by assumption)) (fun _ _ _ => ?_)
  refine pe_b (pe_167 (by assumption)) (fun _ _ _ => ?_)
  exact pe_r (by assumption)
  refine pe_b (hR _ _ _ _ (by assumption)) (fun _ _ _ => ?_)
  refine pe_b (pe_129 (by assumption)) (fun _ _ _ => ?_)
  refine pe_b (pe_167 (by assumption)) (fun _ _ _ => ?_)
  exact pe_r (by assumption)
  refine pe_b (pe_124 (by assumption)) (fun _ _ _ => ?_)
  refine pe_b (pe_77 (by assumption)) (fun _ _ _ => ?_)
  refine pe_b (pe_112 (by assumption)) (fun _ _ _ => ?_)
  refine pe_b (pe_167 (by assumption)) (fun _ _ _ => ?_)
  refine pe_b (hR _ _ _ _ (by assumption)) (fun _ _ _ => ?_)
  refine pe_b (pe_112 (by assumption)) (fun _ _ _ => ?_)
  exact pe_r (by assumption)
theorem pe_169_200 {n : Nat} {F : wq_F} {v3 : Nat} {v4 : Nat} {s0 : Nat} (h : F 56 11 = v) : pe v (dk_169_200 n F v3 v4 s0) := by
  unfold dk_169_200
  refine pe_u (by omega) (by assumption) (fun _ _ => ?_)
  refine pe_i ?_ ?_
  refine pe_u (by omega) (by assumption) (fun _ _ => ?_)
  exact pe_r (by assumption)
  refine pe_u (by omega) (by assumption) (fun _ _ => ?_)
  exact pe_r (by assumption)
theorem pe_169_148 {n : Nat} {r82 : wq_F → Nat → Nat → Nat → Nat → Option (Nat × wq_F)} {F : wq_F} {v1 : Nat} {v5 : Nat} {v6 : Nat} {v7 : Nat} {s0 : Nat} {s1 : Nat} (hr82 : ∀ K x0 x1 x2 x3, K 56 11 = v → pe v (r82 K x0 x1 x2 x3)) (h : F 56 11 = v) : pe v (dk_169_148 n r82 F v1 v5 v6 v7 s0 s1) := by
  unfold dk_169_148
  refine pe_g ?_
  refine pe_u (by omega) (by assumption) (fun _ _ => ?_)
  refine pe_l (fun _ => ?_)
  refine pe_g ?_
  refine pe_u (by omega) (by assumption) (fun _ _ => ?_)
  refine pe_g ?_
  refine pe_l (fun _ => ?_)
  refine pe_g ?_
  refine pe_u (by omega) (by assumption) (fun _ _ => ?_)
  refine pe_l (fun _ => ?_)
  exact hr82 _ _ _ _ _ (by assumption)
theorem pe_169_82b {n : Nat} {r82 : wq_F → Nat → Nat → Nat → Nat → Option (Nat × wq_F)} {F : wq_F} {v1 : Nat} {v3 : Nat} {v4 : Nat} {v5 : Nat} (hr82 : ∀ K x0 x1 x2 x3, K 56 11 = v → pe v (r82 K x0 x1 x2 x3)) (h : F 56 11 = v) : pe v (dk_169_82b n r82 F v1 v3 v4 v5) := by
  unfold dk_169_82b
  refine pe_i ?_ ?_
  refine pe_i ?_ ?_
  exact pe_169_200 (by assumption)
  exact pe_169_200 (by assumption)
  refine pe_g ?_
  refine pe_g ?_
  refine pe_i ?_ ?_
  refine pe_l (fun _ => ?_)
  refine pe_i ?_ ?_
  exact pe_169_148 hr82 (by assumption)
  exact pe_169_148 hr82 (by assumption)
  exact pe_r (by assumption)
theorem pe_169_82 {n : Nat} {g : Nat} {F : wq_F} {x0 : Nat} {x1 : Nat} {x2 : Nat} {x3 : Nat} (h : F 56 11 = v) : pe v (dk_169_82 n g F x0 x1 x2 x3) := by
  induction g generalizing F x0 x1 x2 x3 with
  | zero => exact pe_n
  | succ g ih =>
    exact pe_169_82b (fun K x0 x1 x2 x3 h => by first | exact ih h | exact ih K x0 x1 x2 x3 h) h
theorem pe_169_60 {n : Nat} {F : wq_F} {v1 : Nat} {v2 : Nat} {v3 : Nat} {v4 : Nat} (h : F 56 11 = v) : pe v (dk_169_60 n F v1 v2 v3 v4) := by
  unfold dk_169_60
  refine pe_i ?_ ?_
  refine pe_u (by omega) (by assumption) (fun _ _ => ?_)
  refine pe_u (by omega) (by assumption) (fun _ _ => ?_)
  exact pe_r (by assumption)
  exact pe_169_82 (by assumption)
theorem pe_170_29b {n : Nat} {r29 : wq_F → Nat → Nat → Nat → Option (Nat × wq_F)} {F : wq_F} {v1 : Nat} {v2 : Nat} {v4 : Nat} (hr29 : ∀ K x0 x1 x2, K 56 11 = v → pe v (r29 K x0 x1 x2)) (h : F 56 11 = v) : pe v (dk_170_29b n r29 F v1 v2 v4) := by
  unfold dk_170_29b
  refine pe_g ?_
  refine pe_i ?_ ?_
  exact pe_r (by assumption)
  refine pe_g ?_
  refine pe_i ?_ ?_
  refine pe_g ?_
  refine pe_i ?_ ?_
  refine pe_l (fun _ => ?_)
  exact hr29 _ _ _ _ (by assumption)
  refine pe_g ?_
  exact pe_r (by assumption)
  refine pe_l (fun _ => ?_)
  exact hr29 _ _ _ _ (by assumption)
theorem pe_170_29 {n : Nat} {g : Nat} {F : wq_F} {x0 : Nat} {x1 : Nat} {x2 : Nat} (h : F 56 11 = v) : pe v (dk_170_29 n g F x0 x1 x2) := by
  induction g generalizing F x0 x1 x2 with
  | zero => exact pe_n
  | succ g ih =>
    exact pe_170_29b (fun K x0 x1 x2 h => by first | exact ih h | exact ih K x0 x1 x2 h) h
theorem pe_170 {n : Nat} {F : wq_F} {a0 : Nat} {a1 : Nat} (h : F 56 11 = v) : pe v (dk_170 n F a0 a1) := by
  unfold dk_170
  refine pe_i ?_ ?_
  refine pe_l (fun _ => ?_)
  exact pe_170_29 (by assumption)
  refine pe_g ?_
  refine pe_l (fun _ => ?_)
  exact pe_170_29 (by assumption)
theorem pe_171_2b {n : Nat} {r2 : wq_F → Nat → Nat → Nat → Option (Nat × wq_F)} {F : wq_F} {v1 : Nat} {v2 : Nat} {v3 : Nat} (hr2 : ∀ K x0 x1 x2, K 56 11 = v → pe v (r2 K x0 x1 x2)) (h : F 56 11 = v) : pe v (dk_171_2b n r2 F v1 v2 v3) := by
  unfold dk_171_2b
  refine pe_g ?_
  refine pe_i ?_ ?_
  refine pe_l (fun _ => ?_)
  refine pe_g ?_
  refine pe_i ?_ ?_
  exact pe_r (by assumption)
  refine pe_l (fun _ => ?_)
  exact hr2 _ _ _ _ (by assumption)
  exact pe_r (by assumption)
theorem pe_171_2 {n : Nat} {g : Nat} {F : wq_F} {x0 : Nat} {x1 : Nat} {x2 : Nat} (h : F 56 11 = v) : pe v (dk_171_2 n g F x0 x1 x2) := by
  induction g generalizing F x0 x1 x2 with
  | zero => exact pe_n
  | succ g ih =>
    exact pe_171_2b (fun K x0 x1 x2 h => by first | exact ih h | exact ih K x0 x1 x2 h) h
theorem pe_171 {n : Nat} {F : wq_F} {a0 : Nat} {a1 : Nat} (h : F 56 11 = v) : pe v (dk_171 n F a0 a1) := by
  unfold dk_171
  exact pe_171_2 (by assumption)
theorem pe_169_40 {n : Nat} {r10 : wq_F → Nat → Nat → Nat → Nat → Option (Nat × wq_F)} {F : wq_F} {v1 : Nat} {v2 : Nat} {v3 : Nat} {s0 : Nat} (hr10 : ∀ K x0 x1 x2 x3, K 56 11 = v → pe v (r10 K x0 x1 x2 x3)) (h : F 56 11 = v) : pe v (dk_169_40 n r10 F v1 v2 v3 s0) := by
  unfold dk_169_40
  refine pe_i ?_ ?_
  refine pe_i ?_ ?_
  refine pe_l (fun _ => ?_)
  exact hr10 _ _ _ _ _ (by assumption)
  exact pe_169_60 (by assumption)
  exact pe_169_60 (by assumption)
theorem pe_169_10b {n : Nat} {r10 : wq_F → Nat → Nat → Nat → Nat → Option (Nat × wq_F)} {F : wq_F} {v1 : Nat} {v2 : Nat} {v3 : Nat} {v4 : Nat} (hr10 : ∀ K x0 x1 x2 x3, K 56 11 = v → pe v (r10 K x0 x1 x2 x3)) (h : F 56 11 = v) : pe v (dk_169_10b n r10 F v1 v2 v3 v4) := by
  unfold dk_169_10b
  refine pe_i ?_ ?_
  exact pe_169_60 (by assumption)
  refine pe_b (pe_170 (by assumption)) (fun _ _ _ => ?_)
  refine pe_i ?_ ?_
  refine pe_g ?_
  refine pe_b (pe_171 (by assumption)) (fun _ _ _ => ?_)
  exact pe_169_40 hr10 (by assumption)
  exact pe_169_40 hr10 (by assumption)
theorem pe_169_10 {n : Nat} {g : Nat} {F : wq_F} {x0 : Nat} {x1 : Nat} {x2 : Nat} {x3 : Nat} (h : F 56 11 = v) : pe v (dk_169_10 n g F x0 x1 x2 x3) := by
  induction g generalizing F x0 x1 x2 x3 with
  | zero => exact pe_n
  | succ g ih =>
    exact pe_169_10b (fun K x0 x1 x2 x3 h => by first | exact ih h | exact ih K x0 x1 x2 x3 h) h
theorem pe_169 {n : Nat} {F : wq_F} {a0 : Nat} (h : F 56 11 = v) : pe v (dk_169 n F a0) := by
  unfold dk_169
  exact pe_169_10 (by assumption)
theorem pe_133 {n : Nat} {F : wq_F} (h : F 56 11 = v) : pe v (dk_133 n F) := by
  unfold dk_133
  refine pe_i ?_ ?_
  refine pe_b (pe_169 (by assumption)) (fun _ _ _ => ?_)
  refine pe_i ?_ ?_
  refine pe_b (pe_109 (by assumption)) (fun _ _ _ => ?_)
  exact pe_r (by assumption)
  refine pe_u (by omega) (by assumption) (fun _ _ => ?_)
  refine pe_u (by omega) (by assumption) (fun _ _ => ?_)
  refine pe_b (pe_77 (by assumption)) (fun _ _ _ => ?_)
  exact pe_r (by assumption)
  refine pe_b (pe_109 (by assumption)) (fun _ _ _ => ?_)
  exact pe_r (by assumption)
theorem pe_143 {F : wq_F} {a0 : Nat} {a1 : Nat} {a2 : Nat} (h : F 56 11 = v) : pe v (dk_143 F a0 a1 a2) := by
  unfold dk_143
  refine pe_i ?_ ?_
  refine pe_b (pe_112 (by assumption)) (fun _ _ _ => ?_)
  exact pe_r (by assumption)
  refine pe_b (pe_112 (by assumption)) (fun _ _ _ => ?_)
  exact pe_r (by assumption)
theorem pe_132 {F : wq_F} {a0 : Nat} (h : F 56 11 = v) : pe v (dk_132 F a0) := by
  unfold dk_132
  refine pe_b (pe_84 (by assumption)) (fun _ _ _ => ?_)
  refine pe_i ?_ ?_
  exact pe_r (by assumption)
  refine pe_b (pe_113 (by assumption)) (fun _ _ _ => ?_)
  exact pe_r (by assumption)
theorem pe_131_73 {R : dk_Rt} {n : Nat} {F : wq_F} {v1 : Nat} {v2 : Nat} {v3 : Nat} (hR : ∀ m as K w, K 56 11 = w → pe w (R m as K)) (h : F 56 11 = v) : pe v (dk_131_73 R n F v1 v2 v3) := by
  unfold dk_131_73
  refine pe_b (hR _ _ _ _ (by assumption)) (fun _ _ _ => ?_)
  refine pe_b (pe_143 (by assumption)) (fun _ _ _ => ?_)
  refine pe_b (pe_132 (by assumption)) (fun _ _ _ => ?_)
  exact pe_r (by assumption)
theorem pe_136 {F : wq_F} (h : F 56 11 = v) : pe v (dk_136 F) := by
  unfold dk_136
  refine pe_i ?_ ?_
  refine pe_b (pe_112 (by assumption)) (fun _ _ _ => ?_)
  refine pe_u (by omega) (by assumption) (fun _ _ => ?_)
  exact pe_r (by assumption)
  refine pe_i ?_ ?_
  refine pe_u (by omega) (by assumption) (fun _ _ => ?_)
  exact pe_r (by assumption)
  refine pe_b (pe_112 (by assumption)) (fun _ _ _ => ?_)
  refine pe_u (by omega) (by assumption) (fun _ _ => ?_)
  exact pe_r (by assumption)
theorem pe_135 {F : wq_F} (h : F 56 11 = v) : pe v (dk_135 F) := by
  unfold dk_135
  refine pe_i ?_ ?_
  refine pe_b (pe_112 (by assumption)) (fun _ _ _ => ?_)
  exact pe_r (by assumption)
  refine pe_b (pe_109 (by assumption)) (fun _ _ _ => ?_)
  exact pe_r (by assumption)
theorem pe_134 {n : Nat} {F : wq_F} (h : F 56 11 = v) : pe v (dk_134 n F) := by
  unfold dk_134
  refine pe_b (pe_136 (by assumption)) (fun _ _ _ => ?_)
  refine pe_b (pe_77 (by assumption)) (fun _ _ _ => ?_)
  refine pe_b (pe_135 (by assumption)) (fun _ _ _ => ?_)
  refine pe_b (pe_77 (by assumption)) (fun _ _ _ => ?_)
  refine pe_u (by omega) (by assumption) (fun _ _ => ?_)
  refine pe_b (pe_84 (by assumption)) (fun _ _ _ => ?_)
  refine pe_l (fun _ => ?_)
  refine pe_u (by omega) (by assumption) (fun _ _ => ?_)
  refine pe_u (by omega) (by assumption) (fun _ _ => ?_)
  exact pe_r (by assumption)
theorem pe_131_47 {R : dk_Rt} {n : Nat} {F : wq_F} {v1 : Nat} {v2 : Nat} (hR : ∀ m as K w, K 56 11 = w → pe w (R m as K)) (h : F 56 11 = v) : pe v (dk_131_47 R n F v1 v2) := by
  unfold dk_131_47
  refine pe_i ?_ ?_
  refine pe_i ?_ ?_
  exact pe_131_73 hR (by assumption)
  refine pe_b (pe_134 (by assumption)) (fun _ _ _ => ?_)
  exact pe_131_73 hR (by assumption)
  refine pe_i ?_ ?_
  exact pe_131_73 hR (by assumption)
  refine pe_b (pe_134 (by assumption)) (fun _ _ _ => ?_)
  exact pe_131_73 hR (by assumption)
theorem pe_131_18b {R : dk_Rt} {n : Nat} {r18 : wq_F → Nat → Nat → Nat → Option (Nat × wq_F)} {F : wq_F} {v1 : Nat} {v2 : Nat} {v3 : Nat} (hR : ∀ m as K w, K 56 11 = w → pe w (R m as K)) (hr18 : ∀ K x0 x1 x2, K 56 11 = v → pe v (r18 K x0 x1 x2)) (h : F 56 11 = v) : pe v (dk_131_18b R n r18 F v1 v2 v3) := by
  unfold dk_131_18b
  refine pe_i ?_ ?_
  exact pe_131_47 hR (by assumption)
  refine pe_i ?_ ?_
  refine pe_b (pe_134 (by assumption)) (fun _ _ _ => ?_)
  refine pe_l (fun _ => ?_)
  exact hr18 _ _ _ _ (by assumption)
  exact pe_131_47 hR (by assumption)
theorem pe_131_18 {R : dk_Rt} {n : Nat} {g : Nat} {F : wq_F} {x0 : Nat} {x1 : Nat} {x2 : Nat} (hR : ∀ m as K w, K 56 11 = w → pe w (R m as K)) (h : F 56 11 = v) : pe v (dk_131_18 R n g F x0 x1 x2) := by
  induction g generalizing F x0 x1 x2 with
  | zero => exact pe_n
  | succ g ih =>
    exact pe_131_18b hR (fun K x0 x1 x2 h => by first | exact ih h | exact ih K x0 x1 x2 h) h
theorem pe_131 {R : dk_Rt} {n : Nat} {F : wq_F} {a0 : Nat} (hR : ∀ m as K w, K 56 11 = w → pe w (R m as K)) (h : F 56 11 = v) : pe v (dk_131 R n F a0) := by
  unfold dk_131
  refine pe_b (pe_84 (by assumption)) (fun _ _ _ => ?_)
  refine pe_b (pe_77 (by assumption)) (fun _ _ _ => ?_)
  refine pe_b (pe_133 (by assumption)) (fun _ _ _ => ?_)
  exact pe_131_18 hR (by assumption)
theorem pe_137_45b {R : dk_Rt} {n : Nat} {r45 : wq_F → Nat → Nat → Option (Nat × wq_F)} {F : wq_F} {v1 : Nat} {v2 : Nat} (hR : ∀ m as K w, K 56 11 = w → pe w (R m as K)) (hr45 : ∀ K x0 x1, K 56 11 = v → pe v (r45 K x0 x1)) (h : F 56 11 = v) : pe v (dk_137_45b R n r45 F v1 v2) := by
  unfold dk_137_45b
  refine pe_i ?_ ?_
  exact pe_r (by assumption)
  refine pe_b (hR _ _ _ _ (by assumption)) (fun _ _ _ => ?_)
  refine pe_i ?_ ?_
  exact pe_r (by assumption)
  refine pe_l (fun _ => ?_)
  exact hr45 _ _ _ (by assumption)
theorem pe_137_45 {R : dk_Rt} {n : Nat} {g : Nat} {F : wq_F} {x0 : Nat} {x1 : Nat} (hR : ∀ m as K w, K 56 11 = w → pe w (R m as K)) (h : F 56 11 = v) : pe v (dk_137_45 R n g F x0 x1) := by
  induction g generalizing F x0 x1 with
  | zero => exact pe_n
  | succ g ih =>
    exact pe_137_45b hR (fun K x0 x1 h => by first | exact ih h | exact ih K x0 x1 h) h
theorem pe_137 {R : dk_Rt} {n : Nat} {F : wq_F} {a0 : Nat} (hR : ∀ m as K w, K 56 11 = w → pe w (R m as K)) (h : F 56 11 = v) : pe v (dk_137 R n F a0) := by
  unfold dk_137
  refine pe_i ?_ ?_
  refine pe_b (pe_77 (by assumption)) (fun _ _ _ => ?_)
  refine pe_b (hR _ _ _ _ (by assumption)) (fun _ _ _ => ?_)
  refine pe_b (pe_110 (by assumption)) (fun _ _ _ => ?_)
  refine pe_u (by omega) (by assumption) (fun _ _ => ?_)
  exact pe_137_45 hR (by assumption)
  refine pe_b (pe_133 (by assumption)) (fun _ _ _ => ?_)
  exact pe_137_45 hR (by assumption)
theorem pe_138 {R : dk_Rt} {n : Nat} {F : wq_F} {a0 : Nat} (hR : ∀ m as K w, K 56 11 = w → pe w (R m as K)) (h : F 56 11 = v) : pe v (dk_138 R n F a0) := by
  unfold dk_138
  refine pe_l (fun _ => ?_)
  refine pe_i ?_ ?_
  refine pe_b (pe_136 (by assumption)) (fun _ _ _ => ?_)
  refine pe_b (pe_84 (by assumption)) (fun _ _ _ => ?_)
  refine pe_l (fun _ => ?_)
  refine pe_b (hR _ _ _ _ (by assumption)) (fun _ _ _ => ?_)
  exact pe_r (by assumption)
  refine pe_i ?_ ?_
  refine pe_b (pe_136 (by assumption)) (fun _ _ _ => ?_)
  refine pe_b (pe_84 (by assumption)) (fun _ _ _ => ?_)
  refine pe_l (fun _ => ?_)
  refine pe_b (hR _ _ _ _ (by assumption)) (fun _ _ _ => ?_)
  exact pe_r (by assumption)
  refine pe_i ?_ ?_
  refine pe_b (pe_136 (by assumption)) (fun _ _ _ => ?_)
  refine pe_b (pe_84 (by assumption)) (fun _ _ _ => ?_)
  refine pe_l (fun _ => ?_)
  refine pe_b (hR _ _ _ _ (by assumption)) (fun _ _ _ => ?_)
  exact pe_r (by assumption)
  refine pe_i ?_ ?_
  refine pe_b (pe_136 (by assumption)) (fun _ _ _ => ?_)
  refine pe_b (pe_77 (by assumption)) (fun _ _ _ => ?_)
  refine pe_b (hR _ _ _ _ (by assumption)) (fun _ _ _ => ?_)
  refine pe_b (pe_110 (by assumption)) (fun _ _ _ => ?_)
  refine pe_u (by omega) (by assumption) (fun _ _ => ?_)
  refine pe_b (pe_84 (by assumption)) (fun _ _ _ => ?_)
  refine pe_l (fun _ => ?_)
  refine pe_u (by omega) (by assumption) (fun _ _ => ?_)
  refine pe_u (by omega) (by assumption) (fun _ _ => ?_)
  exact pe_r (by assumption)
  refine pe_i ?_ ?_
  refine pe_b (pe_136 (by assumption)) (fun _ _ _ => ?_)
  refine pe_b (pe_77 (by assumption)) (fun _ _ _ => ?_)
  refine pe_b (pe_112 (by assumption)) (fun _ _ _ => ?_)
  refine pe_b (pe_135 (by assumption)) (fun _ _ _ => ?_)
  refine pe_b (pe_77 (by assumption)) (fun _ _ _ => ?_)
  refine pe_b (pe_112 (by assumption)) (fun _ _ _ => ?_)
  refine pe_b (pe_112 (by assumption)) (fun _ _ _ => ?_)
  refine pe_b (pe_84 (by assumption)) (fun _ _ _ => ?_)
  refine pe_l (fun _ => ?_)
  refine pe_b (hR _ _ _ _ (by assumption)) (fun _ _ _ => ?_)
  exact pe_r (by assumption)
  refine pe_i ?_ ?_
  refine pe_b (pe_134 (by assumption)) (fun _ _ _ => ?_)
  exact pe_r (by assumption)
  exact pe_r (by assumption)
theorem pe_139_93 {R : dk_Rt} {n : Nat} {F : wq_F} {v1 : Nat} {v3 : Nat} (hR : ∀ m as K w, K 56 11 = w → pe w (R m as K)) (h : F 56 11 = v) : pe v (dk_139_93 R n F v1 v3) := by
  unfold dk_139_93
  refine pe_b (pe_78 (by assumption)) (fun _ _ _ => ?_)
  refine pe_b (pe_162 (by assumption)) (fun _ _ _ => ?_)
  refine pe_u (by omega) (by assumption) (fun _ _ => ?_)
  exact pe_r (by assumption)
theorem pe_139 {R : dk_Rt} {n : Nat} {F : wq_F} {a0 : Nat} {a1 : Nat} (hR : ∀ m as K w, K 56 11 = w → pe w (R m as K)) (h : F 56 11 = v) : pe v (dk_139 R n F a0 a1) := by
  unfold dk_139
  refine pe_i ?_ ?_
  refine pe_b (pe_112 (by assumption)) (fun _ _ _ => ?_)
  refine pe_b (pe_77 (by assumption)) (fun _ _ _ => ?_)
  exact pe_139_93 hR (by assumption)
  refine pe_i ?_ ?_
  refine pe_b (hR _ _ _ _ (by assumption)) (fun _ _ _ => ?_)
  exact pe_139_93 hR (by assumption)
  refine pe_b (pe_110 (by assumption)) (fun _ _ _ => ?_)
  refine pe_i ?_ ?_
  refine pe_b (pe_110 (by assumption)) (fun _ _ _ => ?_)
  exact pe_139_93 hR (by assumption)
  refine pe_b (hR _ _ _ _ (by assumption)) (fun _ _ _ => ?_)
  refine pe_b (pe_110 (by assumption)) (fun _ _ _ => ?_)
  exact pe_139_93 hR (by assumption)
theorem pe_158 {F : wq_F} {a0 : Nat} (h : F 56 11 = v) : pe v (dk_158 F a0) := by
  unfold dk_158
  refine pe_i ?_ ?_
  refine pe_l (fun _ => ?_)
  refine pe_g ?_
  refine pe_u (by omega) (by assumption) (fun _ _ => ?_)
  exact pe_r (by assumption)
  exact pe_r (by assumption)
theorem pe_140 {R : dk_Rt} {n : Nat} {F : wq_F} {a0 : Nat} (hR : ∀ m as K w, K 56 11 = w → pe w (R m as K)) (h : F 56 11 = v) : pe v (dk_140 R n F a0) := by
  unfold dk_140
  refine pe_b (pe_84 (by assumption)) (fun _ _ _ => ?_)
  refine pe_b (hR _ _ _ _ (by assumption)) (fun _ _ _ => ?_)
  refine pe_i ?_ ?_
  refine pe_b (pe_158 (by assumption)) (fun _ _ _ => ?_)
  refine pe_b (pe_162 (by assumption)) (fun _ _ _ => ?_)
  exact pe_r (by assumption)
  refine pe_b (hR _ _ _ _ (by assumption)) (fun _ _ _ => ?_)
  exact pe_r (by assumption)
theorem pe_144_70 {R : dk_Rt} {n : Nat} {F : wq_F} {v2 : Nat} {v3 : Nat} (hR : ∀ m as K w, K 56 11 = w → pe w (R m as K)) (h : F 56 11 = v) : pe v (dk_144_70 R n F v2 v3) := by
  unfold dk_144_70
  refine pe_i ?_ ?_
  exact pe_r (by assumption)
  refine pe_l (fun _ => ?_)
  exact pe_r (by assumption)
theorem pe_144_30 {R : dk_Rt} {n : Nat} {r4 : wq_F → Nat → Nat → Option (Nat × wq_F)} {F : wq_F} {v1 : Nat} {v3 : Nat} (hR : ∀ m as K w, K 56 11 = w → pe w (R m as K)) (hr4 : ∀ K x0 x1, K 56 11 = v → pe v (r4 K x0 x1)) (h : F 56 11 = v) : pe v (dk_144_30 R n r4 F v1 v3) := by
  unfold dk_144_30
  refine pe_b (hR _ _ _ _ (by assumption)) (fun _ _ _ => ?_)
  refine pe_l (fun _ => ?_)
  refine pe_i ?_ ?_
  refine pe_i ?_ ?_
  exact pe_144_70 hR (by assumption)
  refine pe_b (pe_158 (by assumption)) (fun _ _ _ => ?_)
  exact pe_144_70 hR (by assumption)
  refine pe_i ?_ ?_
  exact hr4 _ _ _ (by assumption)
  refine pe_i ?_ ?_
  exact pe_144_70 hR (by assumption)
  refine pe_b (pe_158 (by assumption)) (fun _ _ _ => ?_)
  exact pe_144_70 hR (by assumption)
theorem pe_144_12 {R : dk_Rt} {n : Nat} {r4 : wq_F → Nat → Nat → Option (Nat × wq_F)} {F : wq_F} {v1 : Nat} {v3 : Nat} (hR : ∀ m as K w, K 56 11 = w → pe w (R m as K)) (hr4 : ∀ K x0 x1, K 56 11 = v → pe v (r4 K x0 x1)) (h : F 56 11 = v) : pe v (dk_144_12 R n r4 F v1 v3) := by
  unfold dk_144_12
  refine pe_i ?_ ?_
  refine pe_b (pe_114 (by assumption)) (fun _ _ _ => ?_)
  refine pe_i ?_ ?_
  exact pe_144_30 hR hr4 (by assumption)
  refine pe_b (pe_109 (by assumption)) (fun _ _ _ => ?_)
  exact pe_144_30 hR hr4 (by assumption)
  exact pe_144_30 hR hr4 (by assumption)
theorem pe_144_4b {R : dk_Rt} {n : Nat} {r4 : wq_F → Nat → Nat → Option (Nat × wq_F)} {F : wq_F} {v1 : Nat} {v3 : Nat} (hR : ∀ m as K w, K 56 11 = w → pe w (R m as K)) (hr4 : ∀ K x0 x1, K 56 11 = v → pe v (r4 K x0 x1)) (h : F 56 11 = v) : pe v (dk_144_4b R n r4 F v1 v3) := by
  unfold dk_144_4b
  refine pe_i ?_ ?_
  refine pe_b (pe_77 (by assumption)) (fun _ _ _ => ?_)
  exact pe_144_12 hR hr4 (by assumption)
  exact pe_144_12 hR hr4 (by assumption)
theorem pe_144_4 {R : dk_Rt} {n : Nat} {g : Nat} {F : wq_F} {x0 : Nat} {x1 : Nat} (hR : ∀ m as K w, K 56 11 = w → pe w (R m as K)) (h : F 56 11 = v) : pe v (dk_144_4 R n g F x0 x1) := by
  induction g generalizing F x0 x1 with
  | zero => exact pe_n
  | succ g ih =>
    exact pe_144_4b hR (fun K x0 x1 h => by first | exact ih h | exact ih K x0 x1 h) h
theorem pe_144 {R : dk_Rt} {n : Nat} {F : wq_F} {a0 : Nat} (hR : ∀ m as K w, K 56 11 = w → pe w (R m as K)) (h : F 56 11 = v) : pe v (dk_144 R n F a0) := by
  unfold dk_144
  exact pe_144_4 hR (by assumption)
theorem pe_145 {F : wq_F} (h : F 56 11 = v) : pe v (dk_145 F) := by
  unfold dk_145
  refine pe_l (fun _ => ?_)
  refine pe_i ?_ ?_
  exact pe_r (by assumption)
  refine pe_i ?_ ?_
  exact pe_r (by assumption)
  refine pe_i ?_ ?_
  exact pe_r (by assumption)
  refine pe_i ?_ ?_
  exact pe_r (by assumption)
  refine pe_i ?_ ?_
  exact pe_r (by assumption)
  refine pe_i ?_ ?_
  exact pe_r (by assumption)
  refine pe_i ?_ ?_
  exact pe_r (by assumption)
  refine pe_i ?_ ?_
  exact pe_r (by assumption)
  refine pe_i ?_ ?_
  exact pe_r (by assumption)
  refine pe_i ?_ ?_
  exact pe_r (by assumption)
  refine pe_i ?_ ?_
  exact pe_r (by assumption)
  refine pe_i ?_ ?_
  exact pe_r (by assumption)
  refine pe_i ?_ ?_
  exact pe_r (by assumption)
  refine pe_i ?_ ?_
  exact pe_r (by assumption)
  refine pe_i ?_ ?_
  exact pe_r (by assumption)
  refine pe_i ?_ ?_
  exact pe_r (by assumption)
  refine pe_i ?_ ?_
  exact pe_r (by assumption)
  refine pe_i ?_ ?_
  exact pe_r (by assumption)
  refine pe_i ?_ ?_
  exact pe_r (by assumption)
  refine pe_i ?_ ?_
  exact pe_r (by assumption)
  refine pe_i ?_ ?_
  exact pe_r (by assumption)
  refine pe_i ?_ ?_
  exact pe_r (by assumption)
  refine pe_i ?_ ?_
  exact pe_r (by assumption)
  refine pe_i ?_ ?_
  exact pe_r (by assumption)
  refine pe_i ?_ ?_
  exact pe_r (by assumption)
  refine pe_i ?_ ?_
  exact pe_r (by assumption)
  refine pe_i ?_ ?_
  exact pe_r (by assumption)
  refine pe_i ?_ ?_
  exact pe_r (by assumption)
  refine pe_i ?_ ?_
  exact pe_r (by assumption)
  refine pe_i ?_ ?_
  exact pe_r (by assumption)
  refine pe_i ?_ ?_
  exact pe_r (by assumption)
  refine pe_i ?_ ?_
  exact pe_r (by assumption)
  refine pe_i ?_ ?_
  exact pe_r (by assumption)
  refine pe_i ?_ ?_
  exact pe_r (by assumption)
  refine pe_i ?_ ?_
  exact pe_r (by assumption)
  refine pe_i ?_ ?_
  exact pe_r (by assumption)
  refine pe_i ?_ ?_
  exact pe_r (by assumption)
  refine pe_i ?_ ?_
  exact pe_r (by assumption)
  refine pe_i ?_ ?_
  exact pe_r (by assumption)
  refine pe_i ?_ ?_
  exact pe_r (by assumption)
  refine pe_i ?_ ?_
  exact pe_r (by assumption)
  refine pe_i ?_ ?_
  exact pe_r (by assumption)
  refine pe_i ?_ ?_
  exact pe_r (by assumption)
  refine pe_i ?_ ?_
  exact pe_r (by assumption)
  refine pe_i ?_ ?_
  exact pe_r (by assumption)
  refine pe_i ?_ ?_
  exact pe_r (by assumption)
  refine pe_i ?_ ?_
  exact pe_r (by assumption)
  refine pe_i ?_ ?_
  exact pe_r (by assumption)
  refine pe_i ?_ ?_
  exact pe_r (by assumption)
  refine pe_i ?_ ?_
  exact pe_r (by assumption)
  refine pe_i ?_ ?_
  exact pe_r (by assumption)
  refine pe_i ?_ ?_
  exact pe_r (by assumption)
  refine pe_i ?_ ?_
  exact pe_r (by assumption)
  refine pe_i ?_ ?_
  exact pe_r (by assumption)
  refine pe_i ?_ ?_
  exact pe_r (by assumption)
  refine pe_i ?_ ?_
  exact pe_r (by assumption)
  refine pe_i ?_ ?_
  exact pe_r (by assumption)
  refine pe_i ?_ ?_
  exact pe_r (by assumption)
  refine pe_i ?_ ?_
  exact pe_r (by assumption)
  refine pe_i ?_ ?_
  exact pe_r (by assumption)
  exact pe_r (by assumption)
theorem pe_147 {F : wq_F} {a0 : Nat} (h : F 56 11 = v) : pe v (dk_147 F a0) := by
  unfold dk_147
  refine pe_i ?_ ?_
  exact pe_r (by assumption)
  refine pe_i ?_ ?_
  exact pe_r (by assumption)
  refine pe_i ?_ ?_
  exact pe_r (by assumption)
  refine pe_i ?_ ?_
  exact pe_r (by assumption)
  refine pe_i ?_ ?_
  exact pe_r (by assumption)
  refine pe_i ?_ ?_
  exact pe_r (by assumption)
  refine pe_i ?_ ?_
  exact pe_r (by assumption)
  refine pe_i ?_ ?_
  exact pe_r (by assumption)
  refine pe_i ?_ ?_
  exact pe_r (by assumption)
  refine pe_i ?_ ?_
  exact pe_r (by assumption)
  refine pe_i ?_ ?_
  exact pe_r (by assumption)
  refine pe_i ?_ ?_
  exact pe_r (by assumption)
  refine pe_i ?_ ?_
  exact pe_r (by assumption)
  refine pe_i ?_ ?_
  exact pe_r (by assumption)
  refine pe_i ?_ ?_
  exact pe_r (by assumption)
  refine pe_i ?_ ?_
  exact pe_r (by assumption)
  refine pe_i ?_ ?_
  exact pe_r (by assumption)
  refine pe_i ?_ ?_
  exact pe_r (by assumption)
  refine pe_i ?_ ?_
  exact pe_r (by assumption)
  refine pe_i ?_ ?_
  exact pe_r (by assumption)
  refine pe_i ?_ ?_
  exact pe_r (by assumption)
  refine pe_i ?_ ?_
  exact pe_r (by assumption)
  refine pe_i ?_ ?_
  exact pe_r (by assumption)
  refine pe_i ?_ ?_
  exact pe_r (by assumption)
  refine pe_i ?_ ?_
  exact pe_r (by assumption)
  refine pe_i ?_ ?_
  exact pe_r (by assumption)
  refine pe_i ?_ ?_
  exact pe_r (by assumption)
  refine pe_i ?_ ?_
  exact pe_r (by assumption)
  refine pe_i ?_ ?_
  exact pe_r (by assumption)
  refine pe_i ?_ ?_
  exact pe_r (by assumption)
  exact pe_r (by assumption)
theorem pe_148_86b {R : dk_Rt} {n : Nat} {r86 : wq_F → Nat → Nat → Nat → Nat → Option (Nat × wq_F)} {F : wq_F} {v1 : Nat} {v2 : Nat} {v3 : Nat} {v5 : Nat} (hR : ∀ m as K w, K 56 11 = w → pe w (R m as K)) (hr86 : ∀ K x0 x1 x2 x3, K 56 11 = v → pe v (r86 K x0 x1 x2 x3)) (h : F 56 11 = v) : pe v (dk_148_86b R n r86 F v1 v2 v3 v5) := by
  unfold dk_148_86b
  refine pe_i ?_ ?_
  exact pe_r (by assumption)
  refine pe_b (pe_145 (by assumption)) (fun _ _ _ => ?_)
  refine pe_i ?_ ?_
  refine pe_b (hR _ _ _ _ (by assumption)) (fun _ _ _ => ?_)
  refine pe_l (fun _ => ?_)
  exact hr86 _ _ _ _ _ (by assumption)
  exact pe_r (by assumption)
theorem pe_148_86 {R : dk_Rt} {n : Nat} {g : Nat} {F : wq_F} {x0 : Nat} {x1 : Nat} {x2 : Nat} {x3 : Nat} (hR : ∀ m as K w, K 56 11 = w → pe w (R m as K)) (h : F 56 11 = v) : pe v (dk_148_86 R n g F x0 x1 x2 x3) := by
  induction g generalizing F x0 x1 x2 x3 with
  | zero => exact pe_n
  | succ g ih =>
    exact pe_148_86b hR (fun K x0 x1 x2 x3 h => by first | exact ih h | exact ih K x0 x1 x2 x3 h) h
theorem pe_148 {R : dk_Rt} {n : Nat} {F : wq_F} {a0 : Nat} {a1 : Nat} (hR : ∀ m as K w, K 56 11 = w → pe w (R m as K)) (h : F 56 11 = v) : pe v (dk_148 R n F a0 a1) := by
  unfold dk_148
  refine pe_b (pe_114 (by assumption)) (fun _ _ _ => ?_)
  refine pe_i ?_ ?_
  refine pe_b (pe_109 (by assumption)) (fun _ _ _ => ?_)
  exact pe_r (by assumption)
  refine pe_i ?_ ?_
  refine pe_b (pe_109 (by assumption)) (fun _ _ _ => ?_)
  exact pe_r (by assumption)
  refine pe_b (pe_146 (by assumption)) (fun _ _ _ => ?_)
  refine pe_i ?_ ?_
  refine pe_b (hR _ _ _ _ (by assumption)) (fun _ _ _ => ?_)
  exact pe_148_86 hR (by assumption)
  refine pe_b (pe_77 (by assumption)) (fun _ _ _ => ?_)
  refine pe_b (hR _ _ _ _ (by assumption)) (fun _ _ _ => ?_)
  refine pe_b (pe_112 (by assumption)) (fun _ _ _ => ?_)
  exact pe_148_86 hR (by assumption)
theorem pe_149_52 {R : dk_Rt} {n : Nat} {F : wq_F} {v1 : Nat} {v3 : Nat} {v4 : Nat} {s0 : Nat} (hR : ∀ m as K w, K 56 11 = w → pe w (R m as K)) (h : F 56 11 = v) : pe v (dk_149_52 R n F v1 v3 v4 s0) := by
  unfold dk_149_52
  refine pe_b (pe_78 (by assumption)) (fun _ _ _ => ?_)
  refine pe_b (pe_163 (by assumption)) (fun _ _ _ => ?_)
  refine pe_b (hR _ _ _ _ (by assumption)) (fun _ _ _ => ?_)
  refine pe_b (pe_159 (by assumption)) (fun _ _ _ => ?_)
  exact pe_r (by assumption)
theorem pe_149_105 {R : dk_Rt} {n : Nat} {F : wq_F} {v1 : Nat} {v2 : Nat} {v3 : Nat} {v4 : Nat} {s0 : Nat} (hR : ∀ m as K w, K 56 11 = w → pe w (R m as K)) (h : F 56 11 = v) : pe v (dk_149_105 R n F v1 v2 v3 v4 s0) := by
  unfold dk_149_105
  refine pe_b (hR _ _ _ _ (by assumption)) (fun _ _ _ => ?_)
  refine pe_b (pe_147 (by assumption)) (fun _ _ _ => ?_)
  refine pe_b (pe_112 (by assumption)) (fun _ _ _ => ?_)
  refine pe_i ?_ ?_
  refine pe_b (pe_112 (by assumption)) (fun _ _ _ => ?_)
  exact pe_r (by assumption)
  refine pe_i ?_ ?_
  refine pe_b (pe_112 (by assumption)) (fun _ _ _ => ?_)
  exact pe_r (by assumption)
  exact pe_r (by assumption)
theorem pe_149 {R : dk_Rt} {n : Nat} {F : wq_F} {a0 : Nat} (hR : ∀ m as K w, K 56 11 = w → pe w (R m as K)) (h : F 56 11 = v) : pe v (dk_149 R n F a0) := by
  unfold dk_149
  refine pe_b (pe_145 (by assumption)) (fun _ _ _ => ?_)
  refine pe_b (pe_77 (by assumption)) (fun _ _ _ => ?_)
  refine pe_i ?_ ?_
  refine pe_i ?_ ?_
  exact pe_149_52 hR (by assumption)
  exact pe_149_52 hR (by assumption)
  refine pe_i ?_ ?_
  refine pe_i ?_ ?_
  exact pe_149_52 hR (by assumption)
  exact pe_149_52 hR (by assumption)
  refine pe_i ?_ ?_
  refine pe_l (fun _ => ?_)
  exact pe_149_105 hR (by assumption)
  exact pe_149_105 hR (by assumption)
theorem pe_161 {F : wq_F} (h : F 56 11 = v) : pe v (dk_161 F) := by
  unfold dk_161
  refine pe_g ?_
  exact pe_r (by assumption)
theorem pe_150_191 {R : dk_Rt} {n : Nat} {F : wq_F} {v2 : Nat} (hR : ∀ m as K w, K 56 11 = w → pe w (R m as K)) (h : F 56 11 = v) : pe v (dk_150_191 R n F v2) := by
  unfold dk_150_191
  refine pe_b (pe_77 (by assumption)) (fun _ _ _ => ?_)
  refine pe_b (pe_78 (by assumption)) (fun _ _ _ => ?_)
  refine pe_b (pe_163 (by assumption)) (fun _ _ _ => ?_)
  exact pe_r (by assumption)
theorem pe_150 {R : dk_Rt} {n : Nat} {F : wq_F} {a0 : Nat} (hR : ∀ m as K w, K 56 11 = w → pe w (R m as K)) (h : F 56 11 = v) : pe v (dk_150 R n F a0) := by
  unfold dk_150
  refine pe_l (fun _ => ?_)
  refine pe_i ?_ ?_
  refine pe_b (pe_157 (by assumption)) (fun _ _ _ => ?_)
  refine pe_b (pe_112 (by assumption)) (fun _ _ _ => ?_)
  refine pe_b (pe_77 (by assumption)) (fun _ _ _ => ?_)
  exact pe_r (by assumption)
  refine pe_i ?_ ?_
  refine pe_b (pe_112 (by assumption)) (fun _ _ _ => ?_)
  refine pe_b (pe_77 (by assumption)) (fun _ _ _ => ?_)
  exact pe_r (by assumption)
  refine pe_i ?_ ?_
  refine pe_i ?_ ?_
  refine pe_b (pe_112 (by assumption)) (fun _ _ _ => ?_)
  refine pe_b (pe_77 (by assumption)) (fun _ _ _ => ?_)
  exact pe_r (by assumption)
  refine pe_b (pe_112 (by assumption)) (fun _ _ _ => ?_)
  refine pe_b (pe_77 (by assumption)) (fun _ _ _ => ?_)
  exact pe_r (by assumption)
  refine pe_i ?_ ?_
  refine pe_b (pe_77 (by assumption)) (fun _ _ _ => ?_)
  refine pe_b (hR _ _ _ _ (by assumption)) (fun _ _ _ => ?_)
  exact pe_r (by assumption)
  refine pe_i ?_ ?_
  refine pe_b (pe_112 (by assumption)) (fun _ _ _ => ?_)
  refine pe_b (pe_77 (by assumption)) (fun _ _ _ => ?_)
  exact pe_r (by assumption)
  refine pe_i ?_ ?_
  refine pe_i ?_ ?_
  refine pe_b (pe_112 (by assumption)) (fun _ _ _ => ?_)
  refine pe_b (pe_77 (by assumption)) (fun _ _ _ => ?_)
  exact pe_r (by assumption)
  refine pe_b (pe_112 (by assumption)) (fun _ _ _ => ?_)
  refine pe_b (pe_77 (by assumption)) (fun _ _ _ => ?_)
  exact pe_r (by assumption)
  refine pe_i ?_ ?_
  refine pe_b (hR _ _ _ _ (by assumption)) (fun _ _ _ => ?_)
  exact pe_r (by assumption)
  refine pe_i ?_ ?_
  refine pe_b (pe_161 (by assumption)) (fun _ _ _ => ?_)
  refine pe_g ?_
  refine pe_i ?_ ?_
  refine pe_b (pe_109 (by assumption)) (fun _ _ _ => ?_)
  exact pe_150_191 hR (by assumption)
  exact pe_150_191 hR (by assumption)
  refine pe_b (hR _ _ _ _ (by assumption)) (fun _ _ _ => ?_)
  refine pe_i ?_ ?_
  refine pe_b (pe_136 (by assumption)) (fun _ _ _ => ?_)
  exact pe_r (by assumption)
  refine pe_b (pe_136 (by assumption)) (fun _ _ _ => ?_)
  exact pe_r (by assumption)
theorem pe_152 {n : Nat} {F : wq_F} (h : F 56 11 = v) : pe v (dk_152 n F) := by
  unfold dk_152
  refine pe_i ?_ ?_
  refine pe_b (pe_77 (by assumption)) (fun _ _ _ => ?_)
  exact pe_r (by assumption)
  refine pe_i ?_ ?_
  refine pe_b (pe_77 (by assumption)) (fun _ _ _ => ?_)
  exact pe_r (by assumption)
  refine pe_i ?_ ?_
  exact pe_r (by assumption)
  refine pe_b (pe_109 (by assumption)) (fun _ _ _ => ?_)
  exact pe_r (by assumption)
theorem pe_151_136 {R : dk_Rt} {n : Nat} {r32 : wq_F → Nat → Nat → Nat → Nat → Option (Nat × wq_F)} {F : wq_F} {v1 : Nat} {v2 : Nat} {v3 : Nat} {v4 : Nat} {s0 : Nat} (hR : ∀ m as K w, K 56 11 = w → pe w (R m as K)) (hr32 : ∀ K x0 x1 x2 x3, K 56 11 = v → pe v (r32 K x0 x1 x2 x3)) (h : F 56 11 = v) : pe v (dk_151_136 R n r32 F v1 v2 v3 v4 s0) := by
  unfold dk_151_136
  refine pe_i ?_ ?_
  refine pe_l (fun _ => ?_)
  refine pe_b (hR _ _ _ _ (by assumption)) (fun _ _ _ => ?_)
  refine pe_l (fun _ => ?_)
  exact hr32 _ _ _ _ _ (by assumption)
  refine pe_b (hR _ _ _ _ (by assumption)) (fun _ _ _ => ?_)
  refine pe_b (pe_152 (by assumption)) (fun _ _ _ => ?_)
  refine pe_l (fun _ => ?_)
  exact hr32 _ _ _ _ _ (by assumption)
theorem pe_185 {F : wq_F} (h : F 56 11 = v) : pe v (dk_185 F) := by
  unfold dk_185
  refine pe_b (pe_74 (by assumption)) (fun _ _ _ => ?_)
  refine pe_b (pe_186 (by assumption)) (fun _ _ _ => ?_)
  refine pe_i ?_ ?_
  refine pe_b (pe_186 (by assumption)) (fun _ _ _ => ?_)
  refine pe_i ?_ ?_
  exact pe_r (by assumption)
  exact pe_r (by assumption)
  exact pe_r (by assumption)
theorem pe_151_98 {R : dk_Rt} {n : Nat} {r32 : wq_F → Nat → Nat → Nat → Nat → Option (Nat × wq_F)} {F : wq_F} {v1 : Nat} {v2 : Nat} {v3 : Nat} {v4 : Nat} (hR : ∀ m as K w, K 56 11 = w → pe w (R m as K)) (hr32 : ∀ K x0 x1 x2 x3, K 56 11 = v → pe v (r32 K x0 x1 x2 x3)) (h : F 56 11 = v) : pe v (dk_151_98 R n r32 F v1 v2 v3 v4) := by
  unfold dk_151_98
  refine pe_i ?_ ?_
  exact pe_151_136 hR hr32 (by assumption)
  refine pe_i ?_ ?_
  refine pe_b (pe_185 (by assumption)) (fun _ _ _ => ?_)
  refine pe_i ?_ ?_
  exact pe_151_136 hR hr32 (by assumption)
  exact pe_151_136 hR hr32 (by assumption)
  exact pe_151_136 hR hr32 (by assumption)
theorem pe_151_78 {R : dk_Rt} {n : Nat} {r32 : wq_F → Nat → Nat → Nat → Nat → Option (Nat × wq_F)} {F : wq_F} {v1 : Nat} {v2 : Nat} {v3 : Nat} {v4 : Nat} (hR : ∀ m as K w, K 56 11 = w → pe w (R m as K)) (hr32 : ∀ K x0 x1 x2 x3, K 56 11 = v → pe v (r32 K x0 x1 x2 x3)) (h : F 56 11 = v) : pe v (dk_151_78 R n r32 F v1 v2 v3 v4) := by
  unfold dk_151_78
  refine pe_i ?_ ?_
  refine pe_b (pe_109 (by assumption)) (fun _ _ _ => ?_)
  exact pe_151_98 hR hr32 (by assumption)
  refine pe_i ?_ ?_
  refine pe_b (pe_109 (by assumption)) (fun _ _ _ => ?_)
  exact pe_151_98 hR hr32 (by assumption)
  exact pe_151_98 hR hr32 (by assumption)
theorem pe_151_32b {R : dk_Rt} {n : Nat} {r32 : wq_F → Nat → Nat → Nat → Nat → Option (Nat × wq_F)} {F : wq_F} {v1 : Nat} {v2 : Nat} {v3 : Nat} {v4 : Nat} (hR : ∀ m as K w, K 56 11 = w → pe w (R m as K)) (hr32 : ∀ K x0 x1 x2 x3, K 56 11 = v → pe v (r32 K x0 x1 x2 x3)) (h : F 56 11 = v) : pe v (dk_151_32b R n r32 F v1 v2 v3 v4) := by
  unfold dk_151_32b
  refine pe_i ?_ ?_
  refine pe_b (pe_110 (by assumption)) (fun _ _ _ => ?_)
  refine pe_b (pe_162 (by assumption)) (fun _ _ _ => ?_)
  exact pe_r (by assumption)
  refine pe_i ?_ ?_
  refine pe_b (pe_110 (by assumption)) (fun _ _ _ => ?_)
  refine pe_b (pe_162 (by assumption)) (fun _ _ _ => ?_)
  exact pe_r (by assumption)
  refine pe_i ?_ ?_
  exact pe_151_78 hR hr32 (by assumption)
  refine pe_b (pe_114 (by assumption)) (fun _ _ _ => ?_)
  refine pe_i ?_ ?_
  refine pe_b (pe_109 (by assumption)) (fun _ _ _ => ?_)
  exact pe_151_98 hR hr32 (by assumption)
  exact pe_151_78 hR hr32 (by assumption)
theorem pe_151_32 {R : dk_Rt} {n : Nat} {g : Nat} {F : wq_F} {x0 : Nat} {x1 : Nat} {x2 : Nat} {x3 : Nat} (hR : ∀ m as K w, K 56 11 = w → pe w (R m as K)) (h : F 56 11 = v) : pe v (dk_151_32 R n g F x0 x1 x2 x3) := by
  induction g generalizing F x0 x1 x2 x3 with
  | zero => exact pe_n
  | succ g ih =>
    exact pe_151_32b hR (fun K x0 x1 x2 x3 h => by first | exact ih h | exact ih K x0 x1 x2 x3 h) h
theorem pe_151 {R : dk_Rt} {n : Nat} {F : wq_F} {a0 : Nat} (hR : ∀ m as K w, K 56 11 = w → pe w (R m as K)) (h : F 56 11 = v) : pe v (dk_151 R n F a0) := by
  unfold dk_151
  refine pe_b (pe_84 (by assumption)) (fun _ _ _ => ?_)
  refine pe_b (pe_112 (by assumption)) (fun _ _ _ => ?_)
  refine pe_b (pe_77 (by assumption)) (fun _ _ _ => ?_)
  exact pe_151_32 hR (by assumption)
theorem pe_153_43 {R : dk_Rt} {n : Nat} {F : wq_F} {v1 : Nat} {v2 : Nat} (hR : ∀ m as K w, K 56 11 = w → pe w (R m as K)) (h : F 56 11 = v) : pe v (dk_153_43 R n F v1 v2) := by
  unfold dk_153_43
  refine pe_b (pe_110 (by assumption)) (fun _ _ _ => ?_)
  refine pe_b (hR _ _ _ _ (by assumption)) (fun _ _ _ => ?_)
  refine pe_b (pe_112 (by assumption)) (fun _ _ _ => ?_)
  exact pe_r (by assumption)
theorem pe_153 {R : dk_Rt} {n : Nat} {F : wq_F} {a0 : Nat} (hR : ∀ m as K w, K 56 11 = w → pe w (R m as K)) (h : F 56 11 = v) : pe v (dk_153 R n F a0) := by
  unfold dk_153
  refine pe_b (pe_111 (by assumption)) (fun _ _ _ => ?_)
  refine pe_i ?_ ?_
  refine pe_b (pe_135 (by assumption)) (fun _ _ _ => ?_)
  refine pe_b (pe_77 (by assumption)) (fun _ _ _ => ?_)
  exact pe_153_43 hR (by assumption)
  refine pe_b (hR _ _ _ _ (by assumption)) (fun _ _ _ => ?_)
  refine pe_b (pe_110 (by assumption)) (fun _ _ _ => ?_)
  exact pe_153_43 hR (by assumption)
theorem pe_154 {R : dk_Rt} {n : Nat} {F : wq_F} {a0 : Nat} {a1 : Nat} {a2 : Nat} (hR : ∀ m as K w, K 56 11 = w → pe w (R m as K)) (h : F 56 11 = v) : pe v (dk_154 R n F a0 a1 a2) := by
  unfold dk_154
  refine pe_b (hR _ _ _ _ (by assumption)) (fun _ _ _ => ?_)
  refine pe_b (pe_152 (by assumption)) (fun _ _ _ => ?_)
  refine pe_i ?_ ?_
  refine pe_b (pe_112 (by assumption)) (fun _ _ _ => ?_)
  exact pe_r (by assumption)
  refine pe_i ?_ ?_
  refine pe_b (pe_158 (by assumption)) (fun _ _ _ => ?_)
  refine pe_b (pe_78 (by assumption)) (fun _ _ _ => ?_)
  refine pe_b (pe_163 (by assumption)) (fun _ _ _ => ?_)
  exact pe_r (by assumption)
  refine pe_b (pe_112 (by assumption)) (fun _ _ _ => ?_)
  exact pe_r (by assumption)
theorem pe_57 {F : wq_F} {a0 : Nat} (h : F 56 11 = v) : pe v (dk_57 F a0) := by
  unfold dk_57
  refine pe_g ?_
  refine pe_u (by omega) (by assumption) (fun _ _ => ?_)
  refine pe_g ?_
  refine pe_u (by omega) (by assumption) (fun _ _ => ?_)
  refine pe_g ?_
  refine pe_u (by omega) (by assumption) (fun _ _ => ?_)
  refine pe_g ?_
  refine pe_u (by omega) (by assumption) (fun _ _ => ?_)
  refine pe_g ?_
  refine pe_u (by omega) (by assumption) (fun _ _ => ?_)
  refine pe_l (fun _ => ?_)
  refine pe_u (by omega) (by assumption) (fun _ _ => ?_)
  exact pe_r (by assumption)
theorem pe_156_117 {n : Nat} {F : wq_F} {v1 : Nat} {v2 : Nat} (h : F 56 11 = v) : pe v (dk_156_117 n F v1 v2) := by
  unfold dk_156_117
  refine pe_i ?_ ?_
  exact pe_r (by assumption)
  refine pe_g ?_
  refine pe_u (by omega) (by assumption) (fun _ _ => ?_)
  refine pe_b (pe_77 (by assumption)) (fun _ _ _ => ?_)
  exact pe_r (by assumption)
theorem pe_156_100 {n : Nat} {r38 : wq_F → Nat → Nat → Nat → Nat → Option (Nat × wq_F)} {F : wq_F} {v1 : Nat} {v4 : Nat} {s0 : Nat} (hr38 : ∀ K x0 x1 x2 x3, K 56 11 = v → pe v (r38 K x0 x1 x2 x3)) (h : F 56 11 = v) : pe v (dk_156_100 n r38 F v1 v4 s0) := by
  unfold dk_156_100
  refine pe_i ?_ ?_
  refine pe_l (fun _ => ?_)
  exact hr38 _ _ _ _ _ (by assumption)
  refine pe_l (fun _ => ?_)
  exact hr38 _ _ _ _ _ (by assumption)
theorem pe_156_74 {n : Nat} {r38 : wq_F → Nat → Nat → Nat → Nat → Option (Nat × wq_F)} {F : wq_F} {v1 : Nat} {v2 : Nat} {v4 : Nat} {s0 : Nat} (hr38 : ∀ K x0 x1 x2 x3, K 56 11 = v → pe v (r38 K x0 x1 x2 x3)) (h : F 56 11 = v) : pe v (dk_156_74 n r38 F v1 v2 v4 s0) := by
  unfold dk_156_74
  refine pe_i ?_ ?_
  refine pe_l (fun _ => ?_)
  exact hr38 _ _ _ _ _ (by assumption)
  refine pe_b (pe_77 (by assumption)) (fun _ _ _ => ?_)
  refine pe_i ?_ ?_
  exact pe_156_100 hr38 (by assumption)
  exact pe_156_100 hr38 (by assumption)
theorem pe_156_38b {n : Nat} {r38 : wq_F → Nat → Nat → Nat → Nat → Option (Nat × wq_F)} {F : wq_F} {v1 : Nat} {v2 : Nat} {v3 : Nat} {v4 : Nat} (hr38 : ∀ K x0 x1 x2 x3, K 56 11 = v → pe v (r38 K x0 x1 x2 x3)) (h : F 56 11 = v) : pe v (dk_156_38b n r38 F v1 v2 v3 v4) := by
  unfold dk_156_38b
  refine pe_i ?_ ?_
  exact pe_156_117 (by assumption)
  refine pe_i ?_ ?_
  exact pe_156_117 (by assumption)
  refine pe_b (pe_124 (by assumption)) (fun _ _ _ => ?_)
  refine pe_b (pe_77 (by assumption)) (fun _ _ _ => ?_)
  refine pe_i ?_ ?_
  exact pe_156_74 hr38 (by assumption)
  exact pe_156_74 hr38 (by assumption)
theorem pe_156_38 {n : Nat} {g : Nat} {F : wq_F} {x0 : Nat} {x1 : Nat} {x2 : Nat} {x3 : Nat} (h : F 56 11 = v) : pe v (dk_156_38 n g F x0 x1 x2 x3) := by
  induction g generalizing F x0 x1 x2 x3 with
  | zero => exact pe_n
  | succ g ih =>
    exact pe_156_38b (fun K x0 x1 x2 x3 h => by first | exact ih h | exact ih K x0 x1 x2 x3 h) h
theorem pe_156_17 {n : Nat} {F : wq_F} {v1 : Nat} {s0 : Nat} (h : F 56 11 = v) : pe v (dk_156_17 n F v1 s0) := by
  unfold dk_156_17
  refine pe_i ?_ ?_
  exact pe_156_38 (by assumption)
  exact pe_156_38 (by assumption)
theorem pe_156 {n : Nat} {F : wq_F} {a0 : Nat} (h : F 56 11 = v) : pe v (dk_156 n F a0) := by
  unfold dk_156
  refine pe_i ?_ ?_
  exact pe_156_17 (by assumption)
  exact pe_156_17 (by assumption)
theorem pe_160 {F : wq_F} (h : F 56 11 = v) : pe v (dk_160 F) := by
  unfold dk_160
  refine pe_g ?_
  refine pe_u (by omega) (by assumption) (fun _ _ => ?_)
  refine pe_l (fun _ => ?_)
  refine pe_u (by omega) (by assumption) (fun _ _ => ?_)
  exact pe_r (by assumption)
theorem pe_155_117 {R : dk_Rt} {n : Nat} {F : wq_F} {v1 : Nat} {v3 : Nat} {v4 : Nat} {v5 : Nat} (hR : ∀ m as K w, K 56 11 = w → pe w (R m as K)) (h : F 56 11 = v) : pe v (dk_155_117 R n F v1 v3 v4 v5) := by
  unfold dk_155_117
  refine pe_b (pe_77 (by assumption)) (fun _ _ _ => ?_)
  refine pe_b (pe_156 (by assumption)) (fun _ _ _ => ?_)
  refine pe_b (pe_110 (by assumption)) (fun _ _ _ => ?_)
  refine pe_b (pe_167 (by assumption)) (fun _ _ _ => ?_)
  refine pe_l (fun _ => ?_)
  refine pe_g ?_
  refine pe_u (by omega) (by assumption) (fun _ _ => ?_)
  refine pe_g ?_
  refine pe_b (pe_162 (by assumption)) (fun _ _ _ => ?_)
  refine pe_b (pe_78 (by assumption)) (fun _ _ _ => ?_)
  refine pe_b (hR _ _ _ _ (by assumption)) (fun _ _ _ => ?_)
  refine pe_b (pe_84 (by assumption)) (fun _ _ _ => ?_)
  refine pe_b (pe_78 (by assumption)) (fun _ _ _ => ?_)
  refine pe_b (pe_110 (by assumption)) (fun _ _ _ => ?_)
  refine pe_b (pe_160 (by assumption)) (fun _ _ _ => ?_)
  refine pe_b (pe_159 (by assumption)) (fun _ _ _ => ?_)
  refine pe_b (pe_163 (by assumption)) (fun _ _ _ => ?_)
  exact pe_r (by assumption)
theorem pe_155 {R : dk_Rt} {n : Nat} {F : wq_F} {a0 : Nat} {a1 : Nat} (hR : ∀ m as K w, K 56 11 = w → pe w (R m as K)) (h : F 56 11 = v) : pe v (dk_155 R n F a0 a1) := by
  unfold dk_155
  refine pe_i ?_ ?_
  refine pe_i ?_ ?_
  refine pe_b (pe_57 (by assumption)) (fun _ _ _ => ?_)
  refine pe_b (pe_78 (by assumption)) (fun _ _ _ => ?_)
  refine pe_g ?_
  refine pe_u (by omega) (by assumption) (fun _ _ => ?_)
  refine pe_b (pe_83 (by assumption)) (fun _ _ _ => ?_)
  refine pe_i ?_ ?_
  exact pe_155_117 hR (by assumption)
  refine pe_b (pe_166 (by assumption)) (fun _ _ _ => ?_)
  exact pe_155_117 hR (by assumption)
  refine pe_b (pe_109 (by assumption)) (fun _ _ _ => ?_)
  exact pe_r (by assumption)
  refine pe_b (pe_109 (by assumption)) (fun _ _ _ => ?_)
  exact pe_r (by assumption)
theorem pe_141_155 {R : dk_Rt} {n g : Nat} {F : wq_F} {v2 v7 : Nat} : pe v (dk_141_155 R n g F v2 v v7) := by
  induction g generalizing F v7 with
  | zero => exact pe_n
  | succ g ih =>
    show pe v (dk_141_155b R n (dk_141_155 R n g) F v2 v v7)
    unfold dk_141_155b
    refine pe_i ?_ ?_
    · show pe v ((dk_132 (wq_up F 56 11 v) v2).bind fun y5 => some (0, y5.2))
      exact pe_b (pe_132 (wq_up_same _ _ _ _)) (fun _ _ _ => pe_r (by assumption))
    · refine pe_g (pe_g (pe_g (pe_a (fun _ _ => pe_l (fun _ => ?_)))))
      exact ih
theorem pe_141_96 {R : dk_Rt} {n : Nat} {F : wq_F} {v1 v2 : Nat} : pe v (dk_141_96 R n F v1 v2 v) := by
  unfold dk_141_96
  exact pe_l (fun _ => pe_a (fun _ _ => pe_a (fun _ _ => pe_a (fun _ _ => pe_a (fun _ _ => pe_l (fun _ => pe_141_155))))))
theorem pe_141_12 {R : dk_Rt} {n g : Nat} {F : wq_F} {v1 v2 v4 : Nat} : pe v (dk_141_12 R n g F v1 v2 v v4) := by
  induction g generalizing F v4 with
  | zero => exact pe_n
  | succ g ih =>
    show pe v (dk_141_12b R n (dk_141_12 R n g) F v1 v2 v v4)
    have h66 : ∀ F v4, pe v (dk_141_66 R n (dk_141_12 R n g) F v1 v2 v v4) := fun F v4 => by
      unfold dk_141_66
      exact pe_i (pe_a (fun _ _ => pe_l (fun _ => ih))) (pe_a (fun _ _ => pe_a (fun _ _ => pe_l (fun _ => ih))))
    unfold dk_141_12b
    exact pe_i pe_141_96 (pe_i (pe_a (fun _ _ => pe_i (h66 _ _) (pe_i (h66 _ _) (pe_a (fun _ _ => pe_l (fun _ => ih)))))) pe_141_96)
theorem pe_141 {R : dk_Rt} {n : Nat} {F : wq_F} {a0 a1 : Nat} (h : F 56 11 = v) : pe v (dk_141 R n F a0 a1) := by
  unfold dk_141
  rw [h]
  exact pe_a (fun _ _ => pe_141_12)
end
theorem pe_R {n : Nat} : ∀ (k m : Nat) (as : List Nat) (F : wq_F) (v : Nat), F 56 11 = v → pe v (dk_R n k m as F)
  | 0, _, _, _, _, _ => pe_n
  | k + 1, m, as, F, v, h => by
    have hR := fun m as K w (h : K 56 11 = w) => pe_R (n := n) k m as K w h
    show pe v (dk_Rb n (dk_R n k) m as F)
    unfold dk_Rb
    refine pe_i (pe_80 hR h) ?_
    refine pe_i (pe_115 hR h) ?_
    refine pe_i (pe_116 hR h) ?_
    refine pe_i (pe_117 hR h) ?_
    refine pe_i (pe_119 hR h) ?_
    refine pe_i (pe_121 hR h) ?_
    refine pe_i (pe_122 hR h) ?_
    refine pe_i (pe_123 hR h) ?_
    refine pe_i (pe_126 hR h) ?_
    refine pe_i (pe_127 hR h) ?_
    refine pe_i (pe_128 hR h) ?_
    refine pe_i (pe_130 hR h) ?_
    refine pe_i (pe_131 hR h) ?_
    refine pe_i (pe_137 hR h) ?_
    refine pe_i (pe_138 hR h) ?_
    refine pe_i (pe_139 hR h) ?_
    refine pe_i (pe_140 hR h) ?_
    refine pe_i (pe_141  h) ?_
    refine pe_i (pe_144 hR h) ?_
    refine pe_i (pe_148 hR h) ?_
    refine pe_i (pe_149 hR h) ?_
    refine pe_i (pe_150 hR h) ?_
    refine pe_i (pe_151 hR h) ?_
    refine pe_i (pe_153 hR h) ?_
    refine pe_i (pe_154 hR h) ?_
    refine pe_i (pe_155 hR h) ?_
    exact pe_n
