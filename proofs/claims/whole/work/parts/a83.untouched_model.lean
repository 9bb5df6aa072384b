/-! ===== a83: what the reference's reading leaves as it was (written by wip/whole2/lawa82.py) ===== -/
/-- the cells that it doesn't touch -/
def gmx (c j : Nat) : Prop := c = 1 ∨ (9 ≤ c ∧ c ≤ 11) ∨ 38 ≤ c ∨ (c = 0 ∧ (j ≤ 3 ∨ j = 6 ∨ j = 7 ∨ (9 ≤ j ∧ j ≤ 13) ∨ (15 ≤ j ∧ j ≤ 19) ∨ j = 65 ∨ j = 66 ∨ 70 ≤ j))
def gm (B F : wq_F) : Prop := ∀ c j, gmx c j → F c j = B c j
theorem gm_refl (B : wq_F) : gm B B := fun _ _ _ => rfl
theorem gm_u {B F : wq_F} {c i x : Nat} (hc : ¬ gmx c i) (h : gm B F) : gm B (wq_up F c i x) := fun d j q => (wq_up_ne (fun z => hc (by rw [← z.1, ← z.2]; exact q))).trans (h d j q)
/-- if it ends, they are as in B -/
def ge1 (B : wq_F) (m : Option (Nat × wq_F)) : Prop := ∀ x, m = some x → gm B x.2
theorem ge1_n {v : wq_F} : ge1 v none := fun x h => nomatch h
theorem ge1_r {v : wq_F} {r : Nat} {K : wq_F} (h : gm v K) : ge1 v (some (r, K)) := fun x e => by
  rw [← Option.some.inj e]
  exact h
theorem ge1_b {v : wq_F} {m : Option (Nat × wq_F)} {f : Nat × wq_F → Option (Nat × wq_F)} (h : ge1 v m) (g : ∀ r K, gm v K → ge1 v (f (r, K))) : ge1 v (m.bind f) := fun x e => by
  cases m with
  | none => exact nomatch (show (none : Option (Nat × wq_F)) = some x from e)
  | some y => exact g y.1 y.2 (h y rfl) x e
theorem ge1_i {v : wq_F} {c : Prop} [Decidable c] {a b : Option (Nat × wq_F)} (h1 : ge1 v a) (h2 : ge1 v b) : ge1 v (if c then a else b) := by
  by_cases q : c
  · rw [if_pos q]
    exact h1
  · rw [if_neg q]
    exact h2
theorem ge1_g {v : wq_F} {c : Prop} [Decidable c] {k : Option (Nat × wq_F)} (h : ge1 v k) : ge1 v (od_g c k) := ge1_i h ge1_n
theorem ge1_l {v : wq_F} {x : Nat} {k : Nat → Option (Nat × wq_F)} (h : ∀ y, ge1 v (k y)) : ge1 v (od_let x k) := h x
theorem ge1_u {v F : wq_F} {c i x : Nat} {k : wq_F → Option (Nat × wq_F)} (hc : ¬ gmx c i) (h : gm v F) (g : ∀ H, gm v H → ge1 v (k H)) : ge1 v (od_up F c i x k) := g _ (gm_u hc h)
theorem ge1_c {v F : wq_F} {s sp t dp n : Nat} {k : wq_F → Option (Nat × wq_F)} (hc : ∀ j, ¬ gmx t j) (h : gm v F) (g : ∀ H, gm v H → ge1 v (k H)) : ge1 v (od_cp F s sp t dp n k) := g _ (fun d j q => (if_neg (fun z => hc j (by rw [← z.1]; exact q))).trans (h d j q))
section
variable {v : wq_F}
theorem ge1_30 {F : wq_F} {a0 : Nat} {a1 : Nat} {a2 : Nat} {a3 : Nat} (h : gm v F) : ge1 v (dk_30 F a0 a1 a2 a3) := by
  unfold dk_30
  refine ge1_g ?_
  refine ge1_u (by unfold gmx; omega) (by assumption) (fun _ _ => ?_)
  refine ge1_g ?_
  refine ge1_u (by unfold gmx; omega) (by assumption) (fun _ _ => ?_)
  refine ge1_g ?_
  refine ge1_u (by unfold gmx; omega) (by assumption) (fun _ _ => ?_)
  refine ge1_g ?_
  refine ge1_u (by unfold gmx; omega) (by assumption) (fun _ _ => ?_)
  refine ge1_l (fun _ => ?_)
  refine ge1_u (by unfold gmx; omega) (by assumption) (fun _ _ => ?_)
  refine ge1_l (fun _ => ?_)
  exact ge1_r (by assumption)
theorem ge1_29_214 {n : Nat} {F : wq_F} {v2 : Nat} (h : gm v F) : ge1 v (dk_29_214 n F v2) := by
  unfold dk_29_214
  refine ge1_b (ge1_30 (by assumption)) (fun _ _ _ => ?_)
  refine ge1_b (ge1_30 (by assumption)) (fun _ _ _ => ?_)
  exact ge1_r (by assumption)
theorem ge1_34 {F : wq_F} {a0 : Nat} (h : gm v F) : ge1 v (dk_34 F a0) := by
  unfold dk_34
  refine ge1_g ?_
  refine ge1_i ?_ ?_
  refine ge1_g ?_
  refine ge1_l (fun _ => ?_)
  refine ge1_l (fun _ => ?_)
  refine ge1_i ?_ ?_
  exact ge1_r (by assumption)
  exact ge1_r (by assumption)
  exact ge1_r (by assumption)
theorem ge1_36 {F : wq_F} {a0 : Nat} (h : gm v F) : ge1 v (dk_36 F a0) := by
  unfold dk_36
  refine ge1_g ?_
  refine ge1_i ?_ ?_
  refine ge1_g ?_
  refine ge1_l (fun _ => ?_)
  refine ge1_l (fun _ => ?_)
  refine ge1_i ?_ ?_
  exact ge1_r (by assumption)
  exact ge1_r (by assumption)
  exact ge1_r (by assumption)
theorem ge1_35_60 {F : wq_F} {s0 : Nat} (h : gm v F) : ge1 v (dk_35_60 F s0) := by
  unfold dk_35_60
  refine ge1_i ?_ ?_
  exact ge1_r (by assumption)
  refine ge1_i ?_ ?_
  exact ge1_r (by assumption)
  refine ge1_i ?_ ?_
  exact ge1_r (by assumption)
  refine ge1_i ?_ ?_
  exact ge1_r (by assumption)
  refine ge1_i ?_ ?_
  exact ge1_r (by assumption)
  refine ge1_i ?_ ?_
  exact ge1_r (by assumption)
  refine ge1_i ?_ ?_
  exact ge1_r (by assumption)
  refine ge1_i ?_ ?_
  exact ge1_r (by assumption)
  exact ge1_r (by assumption)
theorem ge1_35 {F : wq_F} (h : gm v F) : ge1 v (dk_35 F) := by
  unfold dk_35
  refine ge1_g ?_
  refine ge1_i ?_ ?_
  exact ge1_r (by assumption)
  refine ge1_b (ge1_36 (by assumption)) (fun _ _ _ => ?_)
  refine ge1_i ?_ ?_
  refine ge1_b (ge1_36 (by assumption)) (fun _ _ _ => ?_)
  refine ge1_i ?_ ?_
  refine ge1_g ?_
  refine ge1_i ?_ ?_
  refine ge1_g ?_
  refine ge1_l (fun _ => ?_)
  exact ge1_35_60 (by assumption)
  exact ge1_35_60 (by assumption)
  exact ge1_r (by assumption)
  exact ge1_r (by assumption)
theorem ge1_31 {F : wq_F} {a0 : Nat} {a1 : Nat} {a2 : Nat} {a3 : Nat} (h : gm v F) : ge1 v (dk_31 F a0 a1 a2 a3) := by
  unfold dk_31
  refine ge1_g ?_
  refine ge1_u (by unfold gmx; omega) (by assumption) (fun _ _ => ?_)
  refine ge1_g ?_
  refine ge1_u (by unfold gmx; omega) (by assumption) (fun _ _ => ?_)
  refine ge1_g ?_
  refine ge1_u (by unfold gmx; omega) (by assumption) (fun _ _ => ?_)
  refine ge1_g ?_
  refine ge1_u (by unfold gmx; omega) (by assumption) (fun _ _ => ?_)
  refine ge1_l (fun _ => ?_)
  refine ge1_u (by unfold gmx; omega) (by assumption) (fun _ _ => ?_)
  exact ge1_r (by assumption)
theorem ge1_210 {F : wq_F} (h : gm v F) : ge1 v (dk_210 F) := by
  unfold dk_210
  refine ge1_g ?_
  exact ge1_r (by assumption)
theorem ge1_209 {F : wq_F} {a0 : Nat} {a1 : Nat} (h : gm v F) : ge1 v (dk_209 F a0 a1) := by
  unfold dk_209
  refine ge1_i ?_ ?_
  refine ge1_u (by unfold gmx; omega) (by assumption) (fun _ _ => ?_)
  refine ge1_u (by unfold gmx; omega) (by assumption) (fun _ _ => ?_)
  exact ge1_r (by assumption)
  exact ge1_r (by assumption)
theorem ge1_216 {F : wq_F} (h : gm v F) : ge1 v (dk_216 F) := by
  unfold dk_216
  refine ge1_i ?_ ?_
  refine ge1_b (ge1_210 (by assumption)) (fun _ _ _ => ?_)
  refine ge1_b (ge1_209 (by assumption)) (fun _ _ _ => ?_)
  exact ge1_r (by assumption)
  refine ge1_u (by unfold gmx; omega) (by assumption) (fun _ _ => ?_)
  exact ge1_r (by assumption)
theorem ge1_196 {F : wq_F} {a0 : Nat} (h : gm v F) : ge1 v (dk_196 F a0) := by
  unfold dk_196
  exact ge1_g (ge1_r h)
theorem ge1_215 {F : wq_F} (h : gm v F) : ge1 v (dk_215 F) := by
  unfold dk_215
  refine ge1_b (ge1_210 (by assumption)) (fun _ _ _ => ?_)
  refine ge1_b (ge1_196 (by assumption)) (fun _ _ _ => ?_)
  exact ge1_r (by assumption)
theorem ge1_212 {F : wq_F} (h : gm v F) : ge1 v (dk_212 F) := by
  unfold dk_212
  refine ge1_g ?_
  refine ge1_i ?_ ?_
  refine ge1_b (ge1_210 (by assumption)) (fun _ _ _ => ?_)
  refine ge1_b (ge1_209 (by assumption)) (fun _ _ _ => ?_)
  exact ge1_r (by assumption)
  refine ge1_i ?_ ?_
  refine ge1_b (ge1_210 (by assumption)) (fun _ _ _ => ?_)
  refine ge1_b (ge1_209 (by assumption)) (fun _ _ _ => ?_)
  exact ge1_r (by assumption)
  refine ge1_u (by unfold gmx; omega) (by assumption) (fun _ _ => ?_)
  exact ge1_r (by assumption)
theorem ge1_224 {F : wq_F} (h : gm v F) : ge1 v (dk_224 F) := by
  unfold dk_224
  refine ge1_b (ge1_31 (by assumption)) (fun _ _ _ => ?_)
  refine ge1_b (ge1_31 (by assumption)) (fun _ _ _ => ?_)
  exact ge1_r (by assumption)
theorem ge1_229 {F : wq_F} {a0 : Nat} (h : gm v F) : ge1 v (dk_229 F a0) := by
  unfold dk_229
  refine ge1_i ?_ ?_
  refine ge1_b (ge1_209 (by assumption)) (fun _ _ _ => ?_)
  exact ge1_r (by assumption)
  refine ge1_l (fun _ => ?_)
  refine ge1_g ?_
  refine ge1_i ?_ ?_
  refine ge1_l (fun _ => ?_)
  refine ge1_l (fun _ => ?_)
  refine ge1_g ?_
  refine ge1_b (ge1_30 (by assumption)) (fun _ _ _ => ?_)
  refine ge1_g ?_
  refine ge1_u (by unfold gmx; omega) (by assumption) (fun _ _ => ?_)
  exact ge1_r (by assumption)
  refine ge1_b (ge1_209 (by assumption)) (fun _ _ _ => ?_)
  exact ge1_r (by assumption)
theorem ge1_218 {F : wq_F} (h : gm v F) : ge1 v (dk_218 F) := by
  unfold dk_218
  refine ge1_g ?_
  exact ge1_r (by assumption)
theorem ge1_219 {F : wq_F} {a0 : Nat} (h : gm v F) : ge1 v (dk_219 F a0) := by
  unfold dk_219
  refine ge1_b (ge1_218 (by assumption)) (fun _ _ _ => ?_)
  refine ge1_g ?_
  refine ge1_i ?_ ?_
  refine ge1_b (ge1_209 (by assumption)) (fun _ _ _ => ?_)
  exact ge1_r (by assumption)
  refine ge1_g ?_
  refine ge1_l (fun _ => ?_)
  refine ge1_g ?_
  refine ge1_u (by unfold gmx; omega) (by assumption) (fun _ _ => ?_)
  refine ge1_g ?_
  refine ge1_l (fun _ => ?_)
  exact ge1_r (by assumption)
theorem ge1_211 {F : wq_F} (h : gm v F) : ge1 v (dk_211 F) := by
  unfold dk_211
  refine ge1_g ?_
  refine ge1_i ?_ ?_
  refine ge1_b (ge1_210 (by assumption)) (fun _ _ _ => ?_)
  refine ge1_b (ge1_209 (by assumption)) (fun _ _ _ => ?_)
  exact ge1_r (by assumption)
  refine ge1_b (ge1_210 (by assumption)) (fun _ _ _ => ?_)
  refine ge1_b (ge1_209 (by assumption)) (fun _ _ _ => ?_)
  exact ge1_r (by assumption)
theorem ge1_214 {F : wq_F} {a0 : Nat} (h : gm v F) : ge1 v (dk_214 F a0) := by
  unfold dk_214
  refine ge1_b (ge1_34 (by assumption)) (fun _ _ _ => ?_)
  refine ge1_i ?_ ?_
  refine ge1_b (ge1_211 (by assumption)) (fun _ _ _ => ?_)
  exact ge1_r (by assumption)
  refine ge1_b (ge1_212 (by assumption)) (fun _ _ _ => ?_)
  exact ge1_r (by assumption)
theorem ge1_217 {F : wq_F} (h : gm v F) : ge1 v (dk_217 F) := by
  unfold dk_217
  refine ge1_g ?_
  refine ge1_i ?_ ?_
  exact ge1_r (by assumption)
  refine ge1_g ?_
  refine ge1_i ?_ ?_
  exact ge1_r (by assumption)
  refine ge1_g ?_
  refine ge1_i ?_ ?_
  exact ge1_r (by assumption)
  refine ge1_g ?_
  refine ge1_i ?_ ?_
  refine ge1_g ?_
  refine ge1_l (fun _ => ?_)
  refine ge1_i ?_ ?_
  exact ge1_r (by assumption)
  refine ge1_i ?_ ?_
  exact ge1_r (by assumption)
  refine ge1_i ?_ ?_
  exact ge1_r (by assumption)
  refine ge1_i ?_ ?_
  exact ge1_r (by assumption)
  refine ge1_i ?_ ?_
  exact ge1_r (by assumption)
  exact ge1_r (by assumption)
  refine ge1_b (ge1_36 (by assumption)) (fun _ _ _ => ?_)
  refine ge1_i ?_ ?_
  refine ge1_b (ge1_36 (by assumption)) (fun _ _ _ => ?_)
  refine ge1_i ?_ ?_
  refine ge1_b (ge1_36 (by assumption)) (fun _ _ _ => ?_)
  refine ge1_i ?_ ?_
  refine ge1_b (ge1_36 (by assumption)) (fun _ _ _ => ?_)
  refine ge1_i ?_ ?_
  refine ge1_b (ge1_36 (by assumption)) (fun _ _ _ => ?_)
  refine ge1_i ?_ ?_
  refine ge1_b (ge1_36 (by assumption)) (fun _ _ _ => ?_)
  refine ge1_i ?_ ?_
  exact ge1_r (by assumption)
  exact ge1_r (by assumption)
  exact ge1_r (by assumption)
  exact ge1_r (by assumption)
  exact ge1_r (by assumption)
  exact ge1_r (by assumption)
  exact ge1_r (by assumption)
theorem ge1_233_85b {n : Nat} {r85 : wq_F → Nat → Nat → Nat → Option (Nat × wq_F)} {F : wq_F} {v2 : Nat} {v3 : Nat} {v4 : Nat} (hr85 : ∀ K x0 x1 x2, gm v K → ge1 v (r85 K x0 x1 x2)) (h : gm v F) : ge1 v (dk_233_85b n r85 F v2 v3 v4) := by
  unfold dk_233_85b
  refine ge1_b (ge1_36 (by assumption)) (fun _ _ _ => ?_)
  refine ge1_i ?_ ?_
  refine ge1_b (ge1_215 (by assumption)) (fun _ _ _ => ?_)
  refine ge1_b (ge1_214 (by assumption)) (fun _ _ _ => ?_)
  refine ge1_i ?_ ?_
  exact ge1_r (by assumption)
  refine ge1_b (ge1_217 (by assumption)) (fun _ _ _ => ?_)
  refine ge1_i ?_ ?_
  refine ge1_b (ge1_211 (by assumption)) (fun _ _ _ => ?_)
  exact ge1_r (by assumption)
  refine ge1_b (ge1_30 (by assumption)) (fun _ _ _ => ?_)
  refine ge1_l (fun _ => ?_)
  refine ge1_b (ge1_31 (by assumption)) (fun _ _ _ => ?_)
  refine ge1_b (ge1_31 (by assumption)) (fun _ _ _ => ?_)
  refine ge1_b (ge1_31 (by assumption)) (fun _ _ _ => ?_)
  exact ge1_r (by assumption)
  refine ge1_b (ge1_212 (by assumption)) (fun _ _ _ => ?_)
  refine ge1_i ?_ ?_
  exact ge1_r (by assumption)
  refine ge1_g ?_
  refine ge1_i ?_ ?_
  refine ge1_b (ge1_210 (by assumption)) (fun _ _ _ => ?_)
  refine ge1_b (ge1_219 (by assumption)) (fun _ _ _ => ?_)
  refine ge1_i ?_ ?_
  exact ge1_r (by assumption)
  refine ge1_b (ge1_212 (by assumption)) (fun _ _ _ => ?_)
  refine ge1_i ?_ ?_
  exact ge1_r (by assumption)
  refine ge1_l (fun _ => ?_)
  exact hr85 _ _ _ _ (by assumption)
  refine ge1_b (ge1_211 (by assumption)) (fun _ _ _ => ?_)
  exact ge1_r (by assumption)
theorem ge1_233_85 {n : Nat} {g : Nat} {F : wq_F} {x0 : Nat} {x1 : Nat} {x2 : Nat} (h : gm v F) : ge1 v (dk_233_85 n g F x0 x1 x2) := by
  induction g generalizing F x0 x1 x2 with
  | zero => exact ge1_n
  | succ g ih =>
    exact ge1_233_85b (fun K x0 x1 x2 h => by first | exact ih h | exact ih K x0 x1 x2 h) h
theorem ge1_233 {n : Nat} {F : wq_F} {a0 : Nat} (h : gm v F) : ge1 v (dk_233 n F a0) := by
  unfold dk_233
  refine ge1_g ?_
  refine ge1_i ?_ ?_
  refine ge1_b (ge1_210 (by assumption)) (fun _ _ _ => ?_)
  refine ge1_b (ge1_219 (by assumption)) (fun _ _ _ => ?_)
  refine ge1_i ?_ ?_
  exact ge1_r (by assumption)
  refine ge1_b (ge1_212 (by assumption)) (fun _ _ _ => ?_)
  refine ge1_i ?_ ?_
  exact ge1_r (by assumption)
  refine ge1_b (ge1_36 (by assumption)) (fun _ _ _ => ?_)
  refine ge1_i ?_ ?_
  exact ge1_233_85 (by assumption)
  refine ge1_b (ge1_212 (by assumption)) (fun _ _ _ => ?_)
  refine ge1_i ?_ ?_
  exact ge1_r (by assumption)
  refine ge1_b (ge1_31 (by assumption)) (fun _ _ _ => ?_)
  refine ge1_b (ge1_31 (by assumption)) (fun _ _ _ => ?_)
  exact ge1_r (by assumption)
  refine ge1_b (ge1_211 (by assumption)) (fun _ _ _ => ?_)
  exact ge1_r (by assumption)
theorem ge1_221_11b {n : Nat} {r11 : wq_F → Nat → Nat → Nat → Nat → Nat → Option (Nat × wq_F)} {F : wq_F} {v2 : Nat} {v3 : Nat} {v4 : Nat} {v5 : Nat} {v6 : Nat} (hr11 : ∀ K x0 x1 x2 x3 x4, gm v K → ge1 v (r11 K x0 x1 x2 x3 x4)) (h : gm v F) : ge1 v (dk_221_11b n r11 F v2 v3 v4 v5 v6) := by
  unfold dk_221_11b
  refine ge1_g ?_
  refine ge1_i ?_ ?_
  refine ge1_l (fun _ => ?_)
  refine ge1_g ?_
  refine ge1_i ?_ ?_
  refine ge1_l (fun _ => ?_)
  refine ge1_g ?_
  refine ge1_i ?_ ?_
  exact ge1_r (by assumption)
  refine ge1_l (fun _ => ?_)
  exact hr11 _ _ _ _ _ _ (by assumption)
  refine ge1_l (fun _ => ?_)
  exact hr11 _ _ _ _ _ _ (by assumption)
  refine ge1_g ?_
  refine ge1_i ?_ ?_
  refine ge1_b (ge1_209 (by assumption)) (fun _ _ _ => ?_)
  exact ge1_r (by assumption)
  refine ge1_g ?_
  refine ge1_l (fun _ => ?_)
  refine ge1_g ?_
  refine ge1_u (by unfold gmx; omega) (by assumption) (fun _ _ => ?_)
  refine ge1_g ?_
  refine ge1_l (fun _ => ?_)
  refine ge1_g ?_
  refine ge1_u (by unfold gmx; omega) (by assumption) (fun _ _ => ?_)
  refine ge1_g ?_
  refine ge1_l (fun _ => ?_)
  refine ge1_g ?_
  refine ge1_u (by unfold gmx; omega) (by assumption) (fun _ _ => ?_)
  refine ge1_g ?_
  refine ge1_l (fun _ => ?_)
  exact ge1_r (by assumption)
theorem ge1_221_11 {n : Nat} {g : Nat} {F : wq_F} {x0 : Nat} {x1 : Nat} {x2 : Nat} {x3 : Nat} {x4 : Nat} (h : gm v F) : ge1 v (dk_221_11 n g F x0 x1 x2 x3 x4) := by
  induction g generalizing F x0 x1 x2 x3 x4 with
  | zero => exact ge1_n
  | succ g ih =>
    exact ge1_221_11b (fun K x0 x1 x2 x3 x4 h => by first | exact ih h | exact ih K x0 x1 x2 x3 x4 h) h
theorem ge1_221 {n : Nat} {F : wq_F} {a0 : Nat} {a1 : Nat} {a2 : Nat} {a3 : Nat} (h : gm v F) : ge1 v (dk_221 n F a0 a1 a2 a3) := by
  unfold dk_221
  refine ge1_g ?_
  exact ge1_221_11 (by assumption)
theorem ge1_222_88b {n : Nat} {r88 : wq_F → Nat → Nat → Nat → Nat → Nat → Option (Nat × wq_F)} {F : wq_F} {v2 : Nat} {v3 : Nat} {v6 : Nat} {v7 : Nat} {v8 : Nat} (hr88 : ∀ K x0 x1 x2 x3 x4, gm v K → ge1 v (r88 K x0 x1 x2 x3 x4)) (h : gm v F) : ge1 v (dk_222_88b n r88 F v2 v3 v6 v7 v8) := by
  unfold dk_222_88b
  refine ge1_i ?_ ?_
  refine ge1_i ?_ ?_
  refine ge1_u (by unfold gmx; omega) (by assumption) (fun _ _ => ?_)
  refine ge1_u (by unfold gmx; omega) (by assumption) (fun _ _ => ?_)
  exact ge1_r (by assumption)
  refine ge1_u (by unfold gmx; omega) (by assumption) (fun _ _ => ?_)
  refine ge1_u (by unfold gmx; omega) (by assumption) (fun _ _ => ?_)
  exact ge1_r (by assumption)
  refine ge1_b (ge1_221 (by assumption)) (fun _ _ _ => ?_)
  refine ge1_l (fun _ => ?_)
  exact hr88 _ _ _ _ _ _ (by assumption)
theorem ge1_222_88 {n : Nat} {g : Nat} {F : wq_F} {x0 : Nat} {x1 : Nat} {x2 : Nat} {x3 : Nat} {x4 : Nat} (h : gm v F) : ge1 v (dk_222_88 n g F x0 x1 x2 x3 x4) := by
  induction g generalizing F x0 x1 x2 x3 x4 with
  | zero => exact ge1_n
  | succ g ih =>
    exact ge1_222_88b (fun K x0 x1 x2 x3 x4 h => by first | exact ih h | exact ih K x0 x1 x2 x3 x4 h) h
theorem ge1_222_49b {n : Nat} {r14 : wq_F → Nat → Nat → Nat → Option (Nat × wq_F)} {r49 : wq_F → Nat → Nat → Nat → Nat → Option (Nat × wq_F)} {F : wq_F} {v1 : Nat} {v2 : Nat} {v3 : Nat} {v5 : Nat} (hr14 : ∀ K x0 x1 x2, gm v K → ge1 v (r14 K x0 x1 x2)) (hr49 : ∀ K x0 x1 x2 x3, gm v K → ge1 v (r49 K x0 x1 x2 x3)) (h : gm v F) : ge1 v (dk_222_49b n r14 r49 F v1 v2 v3 v5) := by
  unfold dk_222_49b
  refine ge1_g ?_
  refine ge1_i ?_ ?_
  refine ge1_l (fun _ => ?_)
  exact hr14 _ _ _ _ (by assumption)
  refine ge1_g ?_
  refine ge1_i ?_ ?_
  refine ge1_g ?_
  exact ge1_222_88 (by assumption)
  refine ge1_l (fun _ => ?_)
  exact hr49 _ _ _ _ _ (by assumption)
theorem ge1_222_49 {n : Nat} {r14 : wq_F → Nat → Nat → Nat → Option (Nat × wq_F)} {g : Nat} {F : wq_F} {x0 : Nat} {x1 : Nat} {x2 : Nat} {x3 : Nat} (hr14 : ∀ K x0 x1 x2, gm v K → ge1 v (r14 K x0 x1 x2)) (h : gm v F) : ge1 v (dk_222_49 n r14 g F x0 x1 x2 x3) := by
  induction g generalizing F x0 x1 x2 x3 with
  | zero => exact ge1_n
  | succ g ih =>
    exact ge1_222_49b hr14 (fun K x0 x1 x2 x3 h => by first | exact ih h | exact ih K x0 x1 x2 x3 h) h
theorem ge1_222_14b {n : Nat} {r14 : wq_F → Nat → Nat → Nat → Option (Nat × wq_F)} {F : wq_F} {v1 : Nat} {v2 : Nat} {v3 : Nat} (hr14 : ∀ K x0 x1 x2, gm v K → ge1 v (r14 K x0 x1 x2)) (h : gm v F) : ge1 v (dk_222_14b n r14 F v1 v2 v3) := by
  unfold dk_222_14b
  refine ge1_i ?_ ?_
  refine ge1_u (by unfold gmx; omega) (by assumption) (fun _ _ => ?_)
  refine ge1_u (by unfold gmx; omega) (by assumption) (fun _ _ => ?_)
  exact ge1_r (by assumption)
  refine ge1_i ?_ ?_
  refine ge1_l (fun _ => ?_)
  exact ge1_222_49 hr14 (by assumption)
  refine ge1_g ?_
  refine ge1_l (fun _ => ?_)
  exact ge1_222_49 hr14 (by assumption)
theorem ge1_222_14 {n : Nat} {g : Nat} {F : wq_F} {x0 : Nat} {x1 : Nat} {x2 : Nat} (h : gm v F) : ge1 v (dk_222_14 n g F x0 x1 x2) := by
  induction g generalizing F x0 x1 x2 with
  | zero => exact ge1_n
  | succ g ih =>
    exact ge1_222_14b (fun K x0 x1 x2 h => by first | exact ih h | exact ih K x0 x1 x2 h) h
theorem ge1_222 {n : Nat} {F : wq_F} {a0 : Nat} {a1 : Nat} (h : gm v F) : ge1 v (dk_222 n F a0 a1) := by
  unfold dk_222
  refine ge1_b (ge1_196 (by assumption)) (fun _ _ _ => ?_)
  refine ge1_u (by unfold gmx; omega) (by assumption) (fun _ _ => ?_)
  exact ge1_222_14 (by assumption)
theorem ge1_232_177 {n : Nat} {F : wq_F} {v2 : Nat} (h : gm v F) : ge1 v (dk_232_177 n F v2) := by
  unfold dk_232_177
  refine ge1_b (ge1_31 (by assumption)) (fun _ _ _ => ?_)
  refine ge1_b (ge1_31 (by assumption)) (fun _ _ _ => ?_)
  exact ge1_r (by assumption)
theorem ge1_223 {F : wq_F} (h : gm v F) : ge1 v (dk_223 F) := by
  unfold dk_223
  refine ge1_i ?_ ?_
  refine ge1_i ?_ ?_
  refine ge1_b (ge1_30 (by assumption)) (fun _ _ _ => ?_)
  exact ge1_r (by assumption)
  exact ge1_r (by assumption)
  refine ge1_b (ge1_30 (by assumption)) (fun _ _ _ => ?_)
  exact ge1_r (by assumption)
theorem ge1_232_100 {n : Nat} {r64 : wq_F → Nat → Option (Nat × wq_F)} {F : wq_F} {s0 : Nat} (hr64 : ∀ K x0, gm v K → ge1 v (r64 K x0)) (h : gm v F) : ge1 v (dk_232_100 n r64 F s0) := by
  unfold dk_232_100
  refine ge1_b (ge1_215 (by assumption)) (fun _ _ _ => ?_)
  refine ge1_b (ge1_223 (by assumption)) (fun _ _ _ => ?_)
  refine ge1_b (ge1_212 (by assumption)) (fun _ _ _ => ?_)
  refine ge1_i ?_ ?_
  exact ge1_r (by assumption)
  refine ge1_g ?_
  refine ge1_i ?_ ?_
  refine ge1_g ?_
  refine ge1_l (fun _ => ?_)
  refine ge1_b (ge1_30 (by assumption)) (fun _ _ _ => ?_)
  refine ge1_u (by unfold gmx; omega) (by assumption) (fun _ _ => ?_)
  refine ge1_u (by unfold gmx; omega) (by assumption) (fun _ _ => ?_)
  refine ge1_b (ge1_212 (by assumption)) (fun _ _ _ => ?_)
  refine ge1_i ?_ ?_
  exact ge1_r (by assumption)
  exact hr64 _ _ (by assumption)
  refine ge1_b (ge1_211 (by assumption)) (fun _ _ _ => ?_)
  exact ge1_r (by assumption)
theorem ge1_232_82 {n : Nat} {r64 : wq_F → Nat → Option (Nat × wq_F)} {F : wq_F} {v2 : Nat} (hr64 : ∀ K x0, gm v K → ge1 v (r64 K x0)) (h : gm v F) : ge1 v (dk_232_82 n r64 F v2) := by
  unfold dk_232_82
  refine ge1_i ?_ ?_
  refine ge1_b (ge1_36 (by assumption)) (fun _ _ _ => ?_)
  refine ge1_i ?_ ?_
  exact ge1_232_100 hr64 (by assumption)
  exact ge1_232_100 hr64 (by assumption)
  exact ge1_232_177 (by assumption)
theorem ge1_232_64b {n : Nat} {r64 : wq_F → Nat → Option (Nat × wq_F)} {F : wq_F} {v2 : Nat} (hr64 : ∀ K x0, gm v K → ge1 v (r64 K x0)) (h : gm v F) : ge1 v (dk_232_64b n r64 F v2) := by
  unfold dk_232_64b
  refine ge1_b (ge1_36 (by assumption)) (fun _ _ _ => ?_)
  refine ge1_i ?_ ?_
  refine ge1_b (ge1_36 (by assumption)) (fun _ _ _ => ?_)
  refine ge1_i ?_ ?_
  exact ge1_232_177 (by assumption)
  exact ge1_232_82 hr64 (by assumption)
  exact ge1_232_82 hr64 (by assumption)
theorem ge1_232_64 {n : Nat} {g : Nat} {F : wq_F} {x0 : Nat} (h : gm v F) : ge1 v (dk_232_64 n g F x0) := by
  induction g generalizing F x0 with
  | zero => exact ge1_n
  | succ g ih =>
    exact ge1_232_64b (fun K x0 h => by first | exact ih h | exact ih K x0 h) h
theorem ge1_232 {n : Nat} {F : wq_F} (h : gm v F) : ge1 v (dk_232 n F) := by
  unfold dk_232
  refine ge1_g ?_
  refine ge1_i ?_ ?_
  refine ge1_b (ge1_30 (by assumption)) (fun _ _ _ => ?_)
  refine ge1_g ?_
  refine ge1_l (fun _ => ?_)
  refine ge1_b (ge1_210 (by assumption)) (fun _ _ _ => ?_)
  refine ge1_b (ge1_222 (by assumption)) (fun _ _ _ => ?_)
  refine ge1_i ?_ ?_
  exact ge1_r (by assumption)
  refine ge1_b (ge1_212 (by assumption)) (fun _ _ _ => ?_)
  refine ge1_i ?_ ?_
  exact ge1_r (by assumption)
  exact ge1_232_64 (by assumption)
  refine ge1_b (ge1_211 (by assumption)) (fun _ _ _ => ?_)
  exact ge1_r (by assumption)
theorem ge1_220 {F : wq_F} {a0 : Nat} {a1 : Nat} (h : gm v F) : ge1 v (dk_220 F a0 a1) := by
  unfold dk_220
  refine ge1_g ?_
  refine ge1_u (by unfold gmx; omega) (by assumption) (fun _ _ => ?_)
  refine ge1_g ?_
  refine ge1_u (by unfold gmx; omega) (by assumption) (fun _ _ => ?_)
  refine ge1_u (by unfold gmx; omega) (by assumption) (fun _ _ => ?_)
  exact ge1_r (by assumption)
theorem ge1_231_63b {n : Nat} {r63 : wq_F → Nat → Nat → Nat → Nat → Option (Nat × wq_F)} {F : wq_F} {v2 : Nat} {v3 : Nat} {v4 : Nat} {v6 : Nat} (hr63 : ∀ K x0 x1 x2 x3, gm v K → ge1 v (r63 K x0 x1 x2 x3)) (h : gm v F) : ge1 v (dk_231_63b n r63 F v2 v3 v4 v6) := by
  unfold dk_231_63b
  refine ge1_i ?_ ?_
  refine ge1_l (fun _ => ?_)
  refine ge1_g ?_
  refine ge1_l (fun _ => ?_)
  refine ge1_b (ge1_220 (by assumption)) (fun _ _ _ => ?_)
  refine ge1_l (fun _ => ?_)
  exact hr63 _ _ _ _ _ (by assumption)
  exact ge1_r (by assumption)
theorem ge1_231_63 {n : Nat} {g : Nat} {F : wq_F} {x0 : Nat} {x1 : Nat} {x2 : Nat} {x3 : Nat} (h : gm v F) : ge1 v (dk_231_63 n g F x0 x1 x2 x3) := by
  induction g generalizing F x0 x1 x2 x3 with
  | zero => exact ge1_n
  | succ g ih =>
    exact ge1_231_63b (fun K x0 x1 x2 x3 h => by first | exact ih h | exact ih K x0 x1 x2 x3 h) h
theorem ge1_231_34b {n : Nat} {r34 : wq_F → Nat → Nat → Nat → Nat → Option (Nat × wq_F)} {F : wq_F} {v2 : Nat} {v3 : Nat} {v4 : Nat} {v6 : Nat} (hr34 : ∀ K x0 x1 x2 x3, gm v K → ge1 v (r34 K x0 x1 x2 x3)) (h : gm v F) : ge1 v (dk_231_34b n r34 F v2 v3 v4 v6) := by
  unfold dk_231_34b
  refine ge1_i ?_ ?_
  exact ge1_231_63 (by assumption)
  refine ge1_b (ge1_30 (by assumption)) (fun _ _ _ => ?_)
  refine ge1_l (fun _ => ?_)
  exact hr34 _ _ _ _ _ (by assumption)
theorem ge1_231_34 {n : Nat} {g : Nat} {F : wq_F} {x0 : Nat} {x1 : Nat} {x2 : Nat} {x3 : Nat} (h : gm v F) : ge1 v (dk_231_34 n g F x0 x1 x2 x3) := by
  induction g generalizing F x0 x1 x2 x3 with
  | zero => exact ge1_n
  | succ g ih =>
    exact ge1_231_34b (fun K x0 x1 x2 x3 h => by first | exact ih h | exact ih K x0 x1 x2 x3 h) h
theorem ge1_231_18 {n : Nat} {F : wq_F} {v2 : Nat} {v3 : Nat} {v4 : Nat} (h : gm v F) : ge1 v (dk_231_18 n F v2 v3 v4) := by
  unfold dk_231_18
  refine ge1_b (ge1_30 (by assumption)) (fun _ _ _ => ?_)
  refine ge1_l (fun _ => ?_)
  exact ge1_231_34 (by assumption)
theorem ge1_231 {n : Nat} {F : wq_F} {a0 : Nat} {a1 : Nat} {a2 : Nat} {a3 : Nat} (h : gm v F) : ge1 v (dk_231 n F a0 a1 a2 a3) := by
  unfold dk_231
  refine ge1_i ?_ ?_
  refine ge1_b (ge1_30 (by assumption)) (fun _ _ _ => ?_)
  exact ge1_231_18 (by assumption)
  exact ge1_231_18 (by assumption)
theorem ge1_230_136b {n : Nat} {r136 : wq_F → Nat → Nat → Nat → Nat → Option (Nat × wq_F)} {F : wq_F} {v1 : Nat} {v2 : Nat} {v3 : Nat} {v4 : Nat} (hr136 : ∀ K x0 x1 x2 x3, gm v K → ge1 v (r136 K x0 x1 x2 x3)) (h : gm v F) : ge1 v (dk_230_136b n r136 F v1 v2 v3 v4) := by
  unfold dk_230_136b
  refine ge1_i ?_ ?_
  refine ge1_b (ge1_30 (by assumption)) (fun _ _ _ => ?_)
  refine ge1_b (ge1_36 (by assumption)) (fun _ _ _ => ?_)
  refine ge1_i ?_ ?_
  refine ge1_b (ge1_231 (by assumption)) (fun _ _ _ => ?_)
  exact ge1_r (by assumption)
  refine ge1_b (ge1_215 (by assumption)) (fun _ _ _ => ?_)
  refine ge1_b (ge1_212 (by assumption)) (fun _ _ _ => ?_)
  refine ge1_i ?_ ?_
  exact ge1_r (by assumption)
  refine ge1_b (ge1_217 (by assumption)) (fun _ _ _ => ?_)
  refine ge1_i ?_ ?_
  refine ge1_b (ge1_211 (by assumption)) (fun _ _ _ => ?_)
  exact ge1_r (by assumption)
  refine ge1_l (fun _ => ?_)
  refine ge1_b (ge1_31 (by assumption)) (fun _ _ _ => ?_)
  refine ge1_b (ge1_31 (by assumption)) (fun _ _ _ => ?_)
  refine ge1_b (ge1_31 (by assumption)) (fun _ _ _ => ?_)
  exact ge1_r (by assumption)
  refine ge1_g ?_
  refine ge1_i ?_ ?_
  refine ge1_b (ge1_210 (by assumption)) (fun _ _ _ => ?_)
  refine ge1_b (ge1_219 (by assumption)) (fun _ _ _ => ?_)
  refine ge1_i ?_ ?_
  exact ge1_r (by assumption)
  refine ge1_b (ge1_212 (by assumption)) (fun _ _ _ => ?_)
  refine ge1_i ?_ ?_
  exact ge1_r (by assumption)
  refine ge1_l (fun _ => ?_)
  refine ge1_b (ge1_36 (by assumption)) (fun _ _ _ => ?_)
  refine ge1_i ?_ ?_
  exact hr136 _ _ _ _ _ (by assumption)
  refine ge1_b (ge1_212 (by assumption)) (fun _ _ _ => ?_)
  refine ge1_i ?_ ?_
  exact ge1_r (by assumption)
  exact hr136 _ _ _ _ _ (by assumption)
  refine ge1_b (ge1_211 (by assumption)) (fun _ _ _ => ?_)
  exact ge1_r (by assumption)
theorem ge1_230_136 {n : Nat} {g : Nat} {F : wq_F} {x0 : Nat} {x1 : Nat} {x2 : Nat} {x3 : Nat} (h : gm v F) : ge1 v (dk_230_136 n g F x0 x1 x2 x3) := by
  induction g generalizing F x0 x1 x2 x3 with
  | zero => exact ge1_n
  | succ g ih =>
    exact ge1_230_136b (fun K x0 x1 x2 x3 h => by first | exact ih h | exact ih K x0 x1 x2 x3 h) h
theorem ge1_230_38 {n : Nat} {F : wq_F} (h : gm v F) : ge1 v (dk_230_38 n F) := by
  unfold dk_230_38
  refine ge1_b (ge1_210 (by assumption)) (fun _ _ _ => ?_)
  refine ge1_b (ge1_219 (by assumption)) (fun _ _ _ => ?_)
  refine ge1_i ?_ ?_
  exact ge1_r (by assumption)
  refine ge1_g ?_
  refine ge1_l (fun _ => ?_)
  refine ge1_b (ge1_220 (by assumption)) (fun _ _ _ => ?_)
  refine ge1_b (ge1_30 (by assumption)) (fun _ _ _ => ?_)
  refine ge1_b (ge1_30 (by assumption)) (fun _ _ _ => ?_)
  refine ge1_b (ge1_212 (by assumption)) (fun _ _ _ => ?_)
  refine ge1_i ?_ ?_
  exact ge1_r (by assumption)
  refine ge1_b (ge1_31 (by assumption)) (fun _ _ _ => ?_)
  refine ge1_b (ge1_31 (by assumption)) (fun _ _ _ => ?_)
  exact ge1_r (by assumption)
theorem ge1_230 {n : Nat} {F : wq_F} (h : gm v F) : ge1 v (dk_230 n F) := by
  unfold dk_230
  refine ge1_b (ge1_34 (by assumption)) (fun _ _ _ => ?_)
  refine ge1_i ?_ ?_
  refine ge1_b (ge1_218 (by assumption)) (fun _ _ _ => ?_)
  refine ge1_g ?_
  exact ge1_230_136 (by assumption)
  refine ge1_b (ge1_212 (by assumption)) (fun _ _ _ => ?_)
  refine ge1_i ?_ ?_
  exact ge1_r (by assumption)
  refine ge1_g ?_
  refine ge1_i ?_ ?_
  exact ge1_230_38 (by assumption)
  refine ge1_b (ge1_211 (by assumption)) (fun _ _ _ => ?_)
  refine ge1_i ?_ ?_
  exact ge1_r (by assumption)
  exact ge1_230_38 (by assumption)
theorem ge1_227 {F : wq_F} (h : gm v F) : ge1 v (dk_227 F) := by
  unfold dk_227
  refine ge1_g ?_
  refine ge1_u (by unfold gmx; omega) (by assumption) (fun _ _ => ?_)
  refine ge1_g ?_
  refine ge1_u (by unfold gmx; omega) (by assumption) (fun _ _ => ?_)
  refine ge1_u (by unfold gmx; omega) (by assumption) (fun _ _ => ?_)
  exact ge1_r (by assumption)
theorem ge1_226 {n : Nat} {F : wq_F} (h : gm v F) : ge1 v (dk_226 n F) := by
  unfold dk_226
  refine ge1_b (ge1_36 (by assumption)) (fun _ _ _ => ?_)
  refine ge1_i ?_ ?_
  refine ge1_b (ge1_215 (by assumption)) (fun _ _ _ => ?_)
  refine ge1_b (ge1_30 (by assumption)) (fun _ _ _ => ?_)
  refine ge1_g ?_
  refine ge1_i ?_ ?_
  refine ge1_g ?_
  refine ge1_l (fun _ => ?_)
  refine ge1_b (ge1_210 (by assumption)) (fun _ _ _ => ?_)
  refine ge1_b (ge1_212 (by assumption)) (fun _ _ _ => ?_)
  refine ge1_i ?_ ?_
  exact ge1_r (by assumption)
  refine ge1_l (fun _ => ?_)
  refine ge1_i ?_ ?_
  refine ge1_b (ge1_31 (by assumption)) (fun _ _ _ => ?_)
  refine ge1_b (ge1_224 (by assumption)) (fun _ _ _ => ?_)
  exact ge1_r (by assumption)
  refine ge1_i ?_ ?_
  refine ge1_b (ge1_229 (by assumption)) (fun _ _ _ => ?_)
  exact ge1_r (by assumption)
  refine ge1_i ?_ ?_
  refine ge1_b (ge1_229 (by assumption)) (fun _ _ _ => ?_)
  exact ge1_r (by assumption)
  refine ge1_i ?_ ?_
  refine ge1_b (ge1_229 (by assumption)) (fun _ _ _ => ?_)
  exact ge1_r (by assumption)
  refine ge1_i ?_ ?_
  refine ge1_b (ge1_229 (by assumption)) (fun _ _ _ => ?_)
  exact ge1_r (by assumption)
  refine ge1_i ?_ ?_
  refine ge1_b (ge1_233 (by assumption)) (fun _ _ _ => ?_)
  exact ge1_r (by assumption)
  refine ge1_i ?_ ?_
  refine ge1_b (ge1_232 (by assumption)) (fun _ _ _ => ?_)
  exact ge1_r (by assumption)
  refine ge1_i ?_ ?_
  refine ge1_b (ge1_31 (by assumption)) (fun _ _ _ => ?_)
  refine ge1_b (ge1_31 (by assumption)) (fun _ _ _ => ?_)
  exact ge1_r (by assumption)
  refine ge1_i ?_ ?_
  refine ge1_b (ge1_229 (by assumption)) (fun _ _ _ => ?_)
  exact ge1_r (by assumption)
  refine ge1_i ?_ ?_
  refine ge1_b (ge1_230 (by assumption)) (fun _ _ _ => ?_)
  exact ge1_r (by assumption)
  refine ge1_i ?_ ?_
  refine ge1_b (ge1_229 (by assumption)) (fun _ _ _ => ?_)
  exact ge1_r (by assumption)
  refine ge1_i ?_ ?_
  refine ge1_b (ge1_229 (by assumption)) (fun _ _ _ => ?_)
  exact ge1_r (by assumption)
  refine ge1_i ?_ ?_
  refine ge1_b (ge1_229 (by assumption)) (fun _ _ _ => ?_)
  exact ge1_r (by assumption)
  refine ge1_i ?_ ?_
  refine ge1_b (ge1_227 (by assumption)) (fun _ _ _ => ?_)
  refine ge1_b (ge1_218 (by assumption)) (fun _ _ _ => ?_)
  refine ge1_g ?_
  refine ge1_b (ge1_31 (by assumption)) (fun _ _ _ => ?_)
  refine ge1_b (ge1_31 (by assumption)) (fun _ _ _ => ?_)
  exact ge1_r (by assumption)
  refine ge1_i ?_ ?_
  refine ge1_b (ge1_229 (by assumption)) (fun _ _ _ => ?_)
  exact ge1_r (by assumption)
  refine ge1_i ?_ ?_
  refine ge1_b (ge1_229 (by assumption)) (fun _ _ _ => ?_)
  exact ge1_r (by assumption)
  refine ge1_i ?_ ?_
  refine ge1_b (ge1_229 (by assumption)) (fun _ _ _ => ?_)
  exact ge1_r (by assumption)
  refine ge1_i ?_ ?_
  refine ge1_b (ge1_229 (by assumption)) (fun _ _ _ => ?_)
  exact ge1_r (by assumption)
  refine ge1_i ?_ ?_
  refine ge1_b (ge1_30 (by assumption)) (fun _ _ _ => ?_)
  refine ge1_b (ge1_31 (by assumption)) (fun _ _ _ => ?_)
  refine ge1_b (ge1_31 (by assumption)) (fun _ _ _ => ?_)
  exact ge1_r (by assumption)
  refine ge1_b (ge1_229 (by assumption)) (fun _ _ _ => ?_)
  exact ge1_r (by assumption)
  refine ge1_b (ge1_30 (by assumption)) (fun _ _ _ => ?_)
  refine ge1_b (ge1_31 (by assumption)) (fun _ _ _ => ?_)
  refine ge1_b (ge1_31 (by assumption)) (fun _ _ _ => ?_)
  exact ge1_r (by assumption)
  refine ge1_b (ge1_212 (by assumption)) (fun _ _ _ => ?_)
  exact ge1_r (by assumption)
theorem ge1_33 {n : Nat} {F : wq_F} (h : gm v F) : ge1 v (dk_33 n F) := by
  unfold dk_33
  refine ge1_b (ge1_34 (by assumption)) (fun _ _ _ => ?_)
  refine ge1_i ?_ ?_
  refine ge1_b (ge1_35 (by assumption)) (fun _ _ _ => ?_)
  refine ge1_i ?_ ?_
  exact ge1_r (by assumption)
  refine ge1_b (ge1_31 (by assumption)) (fun _ _ _ => ?_)
  refine ge1_b (ge1_216 (by assumption)) (fun _ _ _ => ?_)
  refine ge1_i ?_ ?_
  exact ge1_r (by assumption)
  refine ge1_b (ge1_31 (by assumption)) (fun _ _ _ => ?_)
  refine ge1_b (ge1_226 (by assumption)) (fun _ _ _ => ?_)
  exact ge1_r (by assumption)
  refine ge1_b (ge1_215 (by assumption)) (fun _ _ _ => ?_)
  refine ge1_b (ge1_30 (by assumption)) (fun _ _ _ => ?_)
  refine ge1_b (ge1_30 (by assumption)) (fun _ _ _ => ?_)
  refine ge1_b (ge1_212 (by assumption)) (fun _ _ _ => ?_)
  refine ge1_i ?_ ?_
  exact ge1_r (by assumption)
  refine ge1_b (ge1_31 (by assumption)) (fun _ _ _ => ?_)
  refine ge1_b (ge1_217 (by assumption)) (fun _ _ _ => ?_)
  refine ge1_i ?_ ?_
  exact ge1_r (by assumption)
  refine ge1_b (ge1_31 (by assumption)) (fun _ _ _ => ?_)
  refine ge1_b (ge1_31 (by assumption)) (fun _ _ _ => ?_)
  exact ge1_r (by assumption)
theorem ge1_225 {F : wq_F} {a0 : Nat} (h : gm v F) : ge1 v (dk_225 F a0) := by
  unfold dk_225
  refine ge1_i ?_ ?_
  refine ge1_g ?_
  refine ge1_b (ge1_30 (by assumption)) (fun _ _ _ => ?_)
  refine ge1_u (by unfold gmx; omega) (by assumption) (fun _ _ => ?_)
  exact ge1_r (by assumption)
  exact ge1_r (by assumption)
theorem ge1_237 {F : wq_F} {a0 : Nat} {a1 : Nat} (h : gm v F) : ge1 v (dk_237 F a0 a1) := by
  unfold dk_237
  refine ge1_b (ge1_30 (by assumption)) (fun _ _ _ => ?_)
  refine ge1_u (by unfold gmx; omega) (by assumption) (fun _ _ => ?_)
  refine ge1_b (ge1_212 (by assumption)) (fun _ _ _ => ?_)
  exact ge1_r (by assumption)
theorem ge1_248 {F : wq_F} (h : gm v F) : ge1 v (dk_248 F) := by
  unfold dk_248
  refine ge1_b (ge1_30 (by assumption)) (fun _ _ _ => ?_)
  refine ge1_b (ge1_31 (by assumption)) (fun _ _ _ => ?_)
  refine ge1_b (ge1_212 (by assumption)) (fun _ _ _ => ?_)
  exact ge1_r (by assumption)
theorem ge1_238_121 {F : wq_F} (h : gm v F) : ge1 v (dk_238_121 F) := by
  unfold dk_238_121
  refine ge1_b (ge1_34 (by assumption)) (fun _ _ _ => ?_)
  refine ge1_i ?_ ?_
  refine ge1_b (ge1_237 (by assumption)) (fun _ _ _ => ?_)
  exact ge1_r (by assumption)
  refine ge1_b (ge1_237 (by assumption)) (fun _ _ _ => ?_)
  exact ge1_r (by assumption)
theorem ge1_238 {F : wq_F} (h : gm v F) : ge1 v (dk_238 F) := by
  unfold dk_238
  refine ge1_u (by unfold gmx; omega) (by assumption) (fun _ _ => ?_)
  refine ge1_g ?_
  refine ge1_i ?_ ?_
  refine ge1_g ?_
  refine ge1_l (fun _ => ?_)
  refine ge1_g ?_
  refine ge1_u (by unfold gmx; omega) (by assumption) (fun _ _ => ?_)
  refine ge1_l (fun _ => ?_)
  refine ge1_u (by unfold gmx; omega) (by assumption) (fun _ _ => ?_)
  refine ge1_l (fun _ => ?_)
  refine ge1_b (ge1_237 (by assumption)) (fun _ _ _ => ?_)
  exact ge1_r (by assumption)
  refine ge1_g ?_
  refine ge1_i ?_ ?_
  refine ge1_g ?_
  refine ge1_l (fun _ => ?_)
  refine ge1_b (ge1_237 (by assumption)) (fun _ _ _ => ?_)
  exact ge1_r (by assumption)
  refine ge1_b (ge1_34 (by assumption)) (fun _ _ _ => ?_)
  refine ge1_i ?_ ?_
  refine ge1_b (ge1_34 (by assumption)) (fun _ _ _ => ?_)
  refine ge1_i ?_ ?_
  refine ge1_b (ge1_34 (by assumption)) (fun _ _ _ => ?_)
  refine ge1_i ?_ ?_
  refine ge1_b (ge1_36 (by assumption)) (fun _ _ _ => ?_)
  refine ge1_i ?_ ?_
  refine ge1_b (ge1_34 (by assumption)) (fun _ _ _ => ?_)
  refine ge1_i ?_ ?_
  refine ge1_b (ge1_36 (by assumption)) (fun _ _ _ => ?_)
  refine ge1_i ?_ ?_
  refine ge1_b (ge1_31 (by assumption)) (fun _ _ _ => ?_)
  refine ge1_b (ge1_31 (by assumption)) (fun _ _ _ => ?_)
  exact ge1_r (by assumption)
  refine ge1_b (ge1_248 (by assumption)) (fun _ _ _ => ?_)
  exact ge1_r (by assumption)
  refine ge1_b (ge1_31 (by assumption)) (fun _ _ _ => ?_)
  refine ge1_b (ge1_212 (by assumption)) (fun _ _ _ => ?_)
  exact ge1_r (by assumption)
  refine ge1_b (ge1_210 (by assumption)) (fun _ _ _ => ?_)
  refine ge1_b (ge1_212 (by assumption)) (fun _ _ _ => ?_)
  refine ge1_i ?_ ?_
  exact ge1_r (by assumption)
  refine ge1_b (ge1_218 (by assumption)) (fun _ _ _ => ?_)
  refine ge1_g ?_
  refine ge1_i ?_ ?_
  refine ge1_b (ge1_209 (by assumption)) (fun _ _ _ => ?_)
  exact ge1_r (by assumption)
  refine ge1_b (ge1_30 (by assumption)) (fun _ _ _ => ?_)
  refine ge1_u (by unfold gmx; omega) (by assumption) (fun _ _ => ?_)
  exact ge1_r (by assumption)
  exact ge1_238_121 (by assumption)
  exact ge1_238_121 (by assumption)
  refine ge1_b (ge1_237 (by assumption)) (fun _ _ _ => ?_)
  exact ge1_r (by assumption)
theorem ge1_236_101 {F : wq_F} {v2 : Nat} {s0 : Nat} (h : gm v F) : ge1 v (dk_236_101 F v2 s0) := by
  unfold dk_236_101
  refine ge1_b (ge1_31 (by assumption)) (fun _ _ _ => ?_)
  refine ge1_b (ge1_31 (by assumption)) (fun _ _ _ => ?_)
  refine ge1_b (ge1_212 (by assumption)) (fun _ _ _ => ?_)
  exact ge1_r (by assumption)
theorem ge1_236_73 {F : wq_F} (h : gm v F) : ge1 v (dk_236_73 F) := by
  unfold dk_236_73
  refine ge1_b (ge1_215 (by assumption)) (fun _ _ _ => ?_)
  refine ge1_b (ge1_34 (by assumption)) (fun _ _ _ => ?_)
  refine ge1_i ?_ ?_
  refine ge1_g ?_
  refine ge1_l (fun _ => ?_)
  exact ge1_236_101 (by assumption)
  exact ge1_236_101 (by assumption)
theorem ge1_236 {F : wq_F} {a0 : Nat} (h : gm v F) : ge1 v (dk_236 F a0) := by
  unfold dk_236
  refine ge1_b (ge1_217 (by assumption)) (fun _ _ _ => ?_)
  refine ge1_i ?_ ?_
  refine ge1_b (ge1_211 (by assumption)) (fun _ _ _ => ?_)
  exact ge1_r (by assumption)
  refine ge1_b (ge1_216 (by assumption)) (fun _ _ _ => ?_)
  refine ge1_i ?_ ?_
  exact ge1_r (by assumption)
  refine ge1_b (ge1_31 (by assumption)) (fun _ _ _ => ?_)
  refine ge1_b (ge1_31 (by assumption)) (fun _ _ _ => ?_)
  refine ge1_b (ge1_34 (by assumption)) (fun _ _ _ => ?_)
  refine ge1_i ?_ ?_
  refine ge1_b (ge1_36 (by assumption)) (fun _ _ _ => ?_)
  refine ge1_i ?_ ?_
  refine ge1_b (ge1_36 (by assumption)) (fun _ _ _ => ?_)
  refine ge1_i ?_ ?_
  refine ge1_b (ge1_36 (by assumption)) (fun _ _ _ => ?_)
  refine ge1_i ?_ ?_
  refine ge1_b (ge1_238 (by assumption)) (fun _ _ _ => ?_)
  exact ge1_r (by assumption)
  exact ge1_236_73 (by assumption)
  exact ge1_236_73 (by assumption)
  exact ge1_236_73 (by assumption)
  exact ge1_236_73 (by assumption)
theorem ge1_234 {F : wq_F} {a0 : Nat} (h : gm v F) : ge1 v (dk_234 F a0) := by
  unfold dk_234
  refine ge1_i ?_ ?_
  exact ge1_r (by assumption)
  refine ge1_i ?_ ?_
  exact ge1_r (by assumption)
  refine ge1_i ?_ ?_
  exact ge1_r (by assumption)
  refine ge1_i ?_ ?_
  exact ge1_r (by assumption)
  refine ge1_i ?_ ?_
  exact ge1_r (by assumption)
  refine ge1_i ?_ ?_
  exact ge1_r (by assumption)
  refine ge1_i ?_ ?_
  exact ge1_r (by assumption)
  refine ge1_i ?_ ?_
  exact ge1_r (by assumption)
  refine ge1_i ?_ ?_
  exact ge1_r (by assumption)
  refine ge1_i ?_ ?_
  exact ge1_r (by assumption)
  refine ge1_i ?_ ?_
  exact ge1_r (by assumption)
  refine ge1_i ?_ ?_
  exact ge1_r (by assumption)
  refine ge1_i ?_ ?_
  exact ge1_r (by assumption)
  refine ge1_i ?_ ?_
  exact ge1_r (by assumption)
  refine ge1_i ?_ ?_
  exact ge1_r (by assumption)
  refine ge1_i ?_ ?_
  exact ge1_r (by assumption)
  refine ge1_i ?_ ?_
  exact ge1_r (by assumption)
  exact ge1_r (by assumption)
theorem ge1_235 {F : wq_F} (h : gm v F) : ge1 v (dk_235 F) := by
  unfold dk_235
  refine ge1_b (ge1_34 (by assumption)) (fun _ _ _ => ?_)
  refine ge1_i ?_ ?_
  refine ge1_b (ge1_34 (by assumption)) (fun _ _ _ => ?_)
  refine ge1_i ?_ ?_
  refine ge1_g ?_
  refine ge1_i ?_ ?_
  refine ge1_g ?_
  refine ge1_l (fun _ => ?_)
  refine ge1_b (ge1_234 (by assumption)) (fun _ _ _ => ?_)
  exact ge1_r (by assumption)
  exact ge1_r (by assumption)
  exact ge1_r (by assumption)
  exact ge1_r (by assumption)
theorem ge1_239_76 {F : wq_F} {v1 : Nat} {v2 : Nat} {v3 : Nat} {v4 : Nat} {v5 : Nat} (h : gm v F) : ge1 v (dk_239_76 F v1 v2 v3 v4 v5) := by
  unfold dk_239_76
  refine ge1_b (ge1_31 (by assumption)) (fun _ _ _ => ?_)
  refine ge1_b (ge1_31 (by assumption)) (fun _ _ _ => ?_)
  refine ge1_i ?_ ?_
  refine ge1_b (ge1_31 (by assumption)) (fun _ _ _ => ?_)
  refine ge1_b (ge1_212 (by assumption)) (fun _ _ _ => ?_)
  exact ge1_r (by assumption)
  refine ge1_b (ge1_31 (by assumption)) (fun _ _ _ => ?_)
  refine ge1_b (ge1_212 (by assumption)) (fun _ _ _ => ?_)
  exact ge1_r (by assumption)
theorem ge1_239_45 {F : wq_F} {v1 : Nat} {v2 : Nat} {v3 : Nat} {s0 : Nat} (h : gm v F) : ge1 v (dk_239_45 F v1 v2 v3 s0) := by
  unfold dk_239_45
  refine ge1_i ?_ ?_
  refine ge1_i ?_ ?_
  refine ge1_b (ge1_30 (by assumption)) (fun _ _ _ => ?_)
  exact ge1_239_76 (by assumption)
  refine ge1_b (ge1_30 (by assumption)) (fun _ _ _ => ?_)
  exact ge1_239_76 (by assumption)
  exact ge1_239_76 (by assumption)
theorem ge1_239 {F : wq_F} {a0 : Nat} (h : gm v F) : ge1 v (dk_239 F a0) := by
  unfold dk_239
  refine ge1_b (ge1_235 (by assumption)) (fun _ _ _ => ?_)
  refine ge1_i ?_ ?_
  refine ge1_b (ge1_215 (by assumption)) (fun _ _ _ => ?_)
  refine ge1_i ?_ ?_
  exact ge1_239_45 (by assumption)
  refine ge1_i ?_ ?_
  exact ge1_239_45 (by assumption)
  refine ge1_g ?_
  refine ge1_l (fun _ => ?_)
  exact ge1_239_45 (by assumption)
  exact ge1_r (by assumption)
theorem ge1_242 {F : wq_F} {a0 : Nat} {a1 : Nat} (h : gm v F) : ge1 v (dk_242 F a0 a1) := by
  unfold dk_242
  refine ge1_u (by unfold gmx; omega) (by assumption) (fun _ _ => ?_)
  refine ge1_i ?_ ?_
  refine ge1_b (ge1_30 (by assumption)) (fun _ _ _ => ?_)
  exact ge1_r (by assumption)
  refine ge1_i ?_ ?_
  refine ge1_b (ge1_30 (by assumption)) (fun _ _ _ => ?_)
  exact ge1_r (by assumption)
  refine ge1_i ?_ ?_
  refine ge1_b (ge1_30 (by assumption)) (fun _ _ _ => ?_)
  exact ge1_r (by assumption)
  refine ge1_b (ge1_30 (by assumption)) (fun _ _ _ => ?_)
  exact ge1_r (by assumption)
theorem ge1_241_61 {F : wq_F} {v1 : Nat} {v2 : Nat} (h : gm v F) : ge1 v (dk_241_61 F v1 v2) := by
  unfold dk_241_61
  refine ge1_i ?_ ?_
  refine ge1_b (ge1_30 (by assumption)) (fun _ _ _ => ?_)
  exact ge1_r (by assumption)
  refine ge1_b (ge1_30 (by assumption)) (fun _ _ _ => ?_)
  exact ge1_r (by assumption)
theorem ge1_241_116 {F : wq_F} {v1 : Nat} {v2 : Nat} {s0 : Nat} {s1 : Nat} (h : gm v F) : ge1 v (dk_241_116 F v1 v2 s0 s1) := by
  unfold dk_241_116
  refine ge1_i ?_ ?_
  refine ge1_b (ge1_30 (by assumption)) (fun _ _ _ => ?_)
  exact ge1_r (by assumption)
  refine ge1_i ?_ ?_
  refine ge1_b (ge1_30 (by assumption)) (fun _ _ _ => ?_)
  exact ge1_r (by assumption)
  refine ge1_b (ge1_30 (by assumption)) (fun _ _ _ => ?_)
  exact ge1_r (by assumption)
theorem ge1_240 {F : wq_F} {a0 : Nat} (h : gm v F) : ge1 v (dk_240 F a0) := by
  unfold dk_240
  refine ge1_i ?_ ?_
  exact ge1_r (by assumption)
  refine ge1_i ?_ ?_
  exact ge1_r (by assumption)
  refine ge1_i ?_ ?_
  exact ge1_r (by assumption)
  refine ge1_i ?_ ?_
  exact ge1_r (by assumption)
  refine ge1_i ?_ ?_
  exact ge1_r (by assumption)
  refine ge1_i ?_ ?_
  exact ge1_r (by assumption)
  refine ge1_i ?_ ?_
  exact ge1_r (by assumption)
  refine ge1_i ?_ ?_
  exact ge1_r (by assumption)
  refine ge1_i ?_ ?_
  exact ge1_r (by assumption)
  exact ge1_r (by assumption)
theorem ge1_241 {F : wq_F} {a0 : Nat} {a1 : Nat} {a2 : Nat} (h : gm v F) : ge1 v (dk_241 F a0 a1 a2) := by
  unfold dk_241
  refine ge1_u (by unfold gmx; omega) (by assumption) (fun _ _ => ?_)
  refine ge1_i ?_ ?_
  refine ge1_g ?_
  refine ge1_u (by unfold gmx; omega) (by assumption) (fun _ _ => ?_)
  exact ge1_r (by assumption)
  refine ge1_i ?_ ?_
  refine ge1_b (ge1_30 (by assumption)) (fun _ _ _ => ?_)
  exact ge1_r (by assumption)
  refine ge1_i ?_ ?_
  exact ge1_241_61 (by assumption)
  refine ge1_i ?_ ?_
  exact ge1_241_61 (by assumption)
  refine ge1_b (ge1_234 (by assumption)) (fun _ _ _ => ?_)
  refine ge1_i ?_ ?_
  refine ge1_i ?_ ?_
  exact ge1_241_116 (by assumption)
  refine ge1_i ?_ ?_
  exact ge1_241_116 (by assumption)
  exact ge1_241_116 (by assumption)
  refine ge1_b (ge1_240 (by assumption)) (fun _ _ _ => ?_)
  refine ge1_b (ge1_30 (by assumption)) (fun _ _ _ => ?_)
  exact ge1_r (by assumption)
theorem ge1_243 {n : Nat} {F : wq_F} (h : gm v F) : ge1 v (dk_243 n F) := by
  unfold dk_243
  refine ge1_g ?_
  refine ge1_i ?_ ?_
  refine ge1_g ?_
  refine ge1_l (fun _ => ?_)
  refine ge1_b (ge1_210 (by assumption)) (fun _ _ _ => ?_)
  refine ge1_b (ge1_222 (by assumption)) (fun _ _ _ => ?_)
  refine ge1_b (ge1_31 (by assumption)) (fun _ _ _ => ?_)
  refine ge1_i ?_ ?_
  refine ge1_b (ge1_212 (by assumption)) (fun _ _ _ => ?_)
  refine ge1_i ?_ ?_
  exact ge1_r (by assumption)
  exact ge1_r (by assumption)
  exact ge1_r (by assumption)
  refine ge1_b (ge1_36 (by assumption)) (fun _ _ _ => ?_)
  refine ge1_i ?_ ?_
  refine ge1_b (ge1_211 (by assumption)) (fun _ _ _ => ?_)
  exact ge1_r (by assumption)
  refine ge1_b (ge1_31 (by assumption)) (fun _ _ _ => ?_)
  refine ge1_b (ge1_31 (by assumption)) (fun _ _ _ => ?_)
  refine ge1_b (ge1_212 (by assumption)) (fun _ _ _ => ?_)
  exact ge1_r (by assumption)
theorem ge1_244 {F : wq_F} (h : gm v F) : ge1 v (dk_244 F) := by
  unfold dk_244
  refine ge1_b (ge1_36 (by assumption)) (fun _ _ _ => ?_)
  refine ge1_i ?_ ?_
  refine ge1_b (ge1_36 (by assumption)) (fun _ _ _ => ?_)
  refine ge1_i ?_ ?_
  refine ge1_g ?_
  refine ge1_i ?_ ?_
  exact ge1_r (by assumption)
  exact ge1_r (by assumption)
  exact ge1_r (by assumption)
  exact ge1_r (by assumption)
theorem ge1_246 {F : wq_F} (h : gm v F) : ge1 v (dk_246 F) := by
  unfold dk_246
  refine ge1_b (ge1_215 (by assumption)) (fun _ _ _ => ?_)
  refine ge1_b (ge1_31 (by assumption)) (fun _ _ _ => ?_)
  refine ge1_b (ge1_31 (by assumption)) (fun _ _ _ => ?_)
  refine ge1_b (ge1_36 (by assumption)) (fun _ _ _ => ?_)
  refine ge1_i ?_ ?_
  refine ge1_g ?_
  refine ge1_i ?_ ?_
  refine ge1_g ?_
  refine ge1_l (fun _ => ?_)
  refine ge1_b (ge1_237 (by assumption)) (fun _ _ _ => ?_)
  exact ge1_r (by assumption)
  refine ge1_b (ge1_31 (by assumption)) (fun _ _ _ => ?_)
  refine ge1_b (ge1_212 (by assumption)) (fun _ _ _ => ?_)
  refine ge1_i ?_ ?_
  exact ge1_r (by assumption)
  refine ge1_b (ge1_36 (by assumption)) (fun _ _ _ => ?_)
  refine ge1_i ?_ ?_
  refine ge1_b (ge1_217 (by assumption)) (fun _ _ _ => ?_)
  refine ge1_i ?_ ?_
  refine ge1_b (ge1_211 (by assumption)) (fun _ _ _ => ?_)
  exact ge1_r (by assumption)
  refine ge1_b (ge1_31 (by assumption)) (fun _ _ _ => ?_)
  refine ge1_b (ge1_31 (by assumption)) (fun _ _ _ => ?_)
  exact ge1_r (by assumption)
  exact ge1_r (by assumption)
  refine ge1_b (ge1_248 (by assumption)) (fun _ _ _ => ?_)
  exact ge1_r (by assumption)
theorem ge1_245 {F : wq_F} (h : gm v F) : ge1 v (dk_245 F) := by
  unfold dk_245
  refine ge1_b (ge1_215 (by assumption)) (fun _ _ _ => ?_)
  refine ge1_b (ge1_36 (by assumption)) (fun _ _ _ => ?_)
  refine ge1_i ?_ ?_
  refine ge1_b (ge1_36 (by assumption)) (fun _ _ _ => ?_)
  refine ge1_i ?_ ?_
  refine ge1_b (ge1_36 (by assumption)) (fun _ _ _ => ?_)
  refine ge1_i ?_ ?_
  refine ge1_b (ge1_244 (by assumption)) (fun _ _ _ => ?_)
  refine ge1_i ?_ ?_
  exact ge1_r (by assumption)
  refine ge1_b (ge1_223 (by assumption)) (fun _ _ _ => ?_)
  refine ge1_b (ge1_30 (by assumption)) (fun _ _ _ => ?_)
  refine ge1_b (ge1_246 (by assumption)) (fun _ _ _ => ?_)
  exact ge1_r (by assumption)
  refine ge1_b (ge1_223 (by assumption)) (fun _ _ _ => ?_)
  refine ge1_b (ge1_212 (by assumption)) (fun _ _ _ => ?_)
  refine ge1_i ?_ ?_
  exact ge1_r (by assumption)
  refine ge1_g ?_
  refine ge1_i ?_ ?_
  refine ge1_b (ge1_30 (by assumption)) (fun _ _ _ => ?_)
  refine ge1_g ?_
  refine ge1_l (fun _ => ?_)
  refine ge1_b (ge1_30 (by assumption)) (fun _ _ _ => ?_)
  refine ge1_b (ge1_30 (by assumption)) (fun _ _ _ => ?_)
  refine ge1_b (ge1_30 (by assumption)) (fun _ _ _ => ?_)
  refine ge1_b (ge1_30 (by assumption)) (fun _ _ _ => ?_)
  refine ge1_b (ge1_212 (by assumption)) (fun _ _ _ => ?_)
  refine ge1_i ?_ ?_
  exact ge1_r (by assumption)
  refine ge1_b (ge1_244 (by assumption)) (fun _ _ _ => ?_)
  refine ge1_i ?_ ?_
  refine ge1_b (ge1_211 (by assumption)) (fun _ _ _ => ?_)
  exact ge1_r (by assumption)
  refine ge1_b (ge1_246 (by assumption)) (fun _ _ _ => ?_)
  exact ge1_r (by assumption)
  refine ge1_b (ge1_211 (by assumption)) (fun _ _ _ => ?_)
  exact ge1_r (by assumption)
  refine ge1_b (ge1_223 (by assumption)) (fun _ _ _ => ?_)
  refine ge1_b (ge1_31 (by assumption)) (fun _ _ _ => ?_)
  refine ge1_b (ge1_31 (by assumption)) (fun _ _ _ => ?_)
  refine ge1_b (ge1_212 (by assumption)) (fun _ _ _ => ?_)
  exact ge1_r (by assumption)
  refine ge1_b (ge1_223 (by assumption)) (fun _ _ _ => ?_)
  refine ge1_b (ge1_212 (by assumption)) (fun _ _ _ => ?_)
  refine ge1_i ?_ ?_
  exact ge1_r (by assumption)
  refine ge1_g ?_
  refine ge1_i ?_ ?_
  refine ge1_g ?_
  refine ge1_l (fun _ => ?_)
  refine ge1_b (ge1_30 (by assumption)) (fun _ _ _ => ?_)
  refine ge1_u (by unfold gmx; omega) (by assumption) (fun _ _ => ?_)
  refine ge1_u (by unfold gmx; omega) (by assumption) (fun _ _ => ?_)
  refine ge1_b (ge1_31 (by assumption)) (fun _ _ _ => ?_)
  refine ge1_b (ge1_212 (by assumption)) (fun _ _ _ => ?_)
  exact ge1_r (by assumption)
  refine ge1_b (ge1_211 (by assumption)) (fun _ _ _ => ?_)
  exact ge1_r (by assumption)
theorem ge1_213 {F : wq_F} {a0 : Nat} (h : gm v F) : ge1 v (dk_213 F a0) := by
  unfold dk_213
  refine ge1_b (ge1_36 (by assumption)) (fun _ _ _ => ?_)
  refine ge1_i ?_ ?_
  refine ge1_b (ge1_211 (by assumption)) (fun _ _ _ => ?_)
  exact ge1_r (by assumption)
  refine ge1_b (ge1_212 (by assumption)) (fun _ _ _ => ?_)
  exact ge1_r (by assumption)
theorem ge1_273 {F : wq_F} (h : gm v F) : ge1 v (dk_273 F) := by
  unfold dk_273
  refine ge1_u (by unfold gmx; omega) (by assumption) (fun _ _ => ?_)
  refine ge1_b (ge1_31 (by assumption)) (fun _ _ _ => ?_)
  refine ge1_b (ge1_213 (by assumption)) (fun _ _ _ => ?_)
  exact ge1_r (by assumption)
theorem ge1_274 {F : wq_F} {a0 : Nat} (h : gm v F) : ge1 v (dk_274 F a0) := by
  unfold dk_274
  refine ge1_u (by unfold gmx; omega) (by assumption) (fun _ _ => ?_)
  refine ge1_u (by unfold gmx; omega) (by assumption) (fun _ _ => ?_)
  refine ge1_b (ge1_31 (by assumption)) (fun _ _ _ => ?_)
  refine ge1_b (ge1_213 (by assumption)) (fun _ _ _ => ?_)
  exact ge1_r (by assumption)
theorem ge1_275 {F : wq_F} (h : gm v F) : ge1 v (dk_275 F) := by
  unfold dk_275
  refine ge1_u (by unfold gmx; omega) (by assumption) (fun _ _ => ?_)
  refine ge1_i ?_ ?_
  refine ge1_u (by unfold gmx; omega) (by assumption) (fun _ _ => ?_)
  exact ge1_r (by assumption)
  refine ge1_b (ge1_223 (by assumption)) (fun _ _ _ => ?_)
  exact ge1_r (by assumption)
theorem ge1_276 {F : wq_F} {a0 : Nat} (h : gm v F) : ge1 v (dk_276 F a0) := by
  unfold dk_276
  refine ge1_b (ge1_30 (by assumption)) (fun _ _ _ => ?_)
  refine ge1_u (by unfold gmx; omega) (by assumption) (fun _ _ => ?_)
  refine ge1_u (by unfold gmx; omega) (by assumption) (fun _ _ => ?_)
  exact ge1_r (by assumption)
theorem ge1_247 {F : wq_F} {a0 : Nat} (h : gm v F) : ge1 v (dk_247 F a0) := by
  unfold dk_247
  refine ge1_b (ge1_36 (by assumption)) (fun _ _ _ => ?_)
  refine ge1_i ?_ ?_
  refine ge1_i ?_ ?_
  exact ge1_r (by assumption)
  refine ge1_g ?_
  refine ge1_u (by unfold gmx; omega) (by assumption) (fun _ _ => ?_)
  exact ge1_r (by assumption)
  refine ge1_b (ge1_212 (by assumption)) (fun _ _ _ => ?_)
  refine ge1_i ?_ ?_
  exact ge1_r (by assumption)
  refine ge1_b (ge1_217 (by assumption)) (fun _ _ _ => ?_)
  refine ge1_i ?_ ?_
  refine ge1_b (ge1_211 (by assumption)) (fun _ _ _ => ?_)
  exact ge1_r (by assumption)
  refine ge1_i ?_ ?_
  refine ge1_b (ge1_210 (by assumption)) (fun _ _ _ => ?_)
  refine ge1_b (ge1_209 (by assumption)) (fun _ _ _ => ?_)
  exact ge1_r (by assumption)
  refine ge1_b (ge1_31 (by assumption)) (fun _ _ _ => ?_)
  refine ge1_b (ge1_31 (by assumption)) (fun _ _ _ => ?_)
  exact ge1_r (by assumption)
theorem ge1_249_161 {F : wq_F} {v1 : Nat} {v2 : Nat} {s0 : Nat} (h : gm v F) : ge1 v (dk_249_161 F v1 v2 s0) := by
  unfold dk_249_161
  refine ge1_i ?_ ?_
  refine ge1_b (ge1_30 (by assumption)) (fun _ _ _ => ?_)
  refine ge1_b (ge1_31 (by assumption)) (fun _ _ _ => ?_)
  refine ge1_b (ge1_31 (by assumption)) (fun _ _ _ => ?_)
  exact ge1_r (by assumption)
  refine ge1_g ?_
  refine ge1_l (fun _ => ?_)
  refine ge1_b (ge1_30 (by assumption)) (fun _ _ _ => ?_)
  refine ge1_b (ge1_31 (by assumption)) (fun _ _ _ => ?_)
  refine ge1_b (ge1_31 (by assumption)) (fun _ _ _ => ?_)
  refine ge1_b (ge1_212 (by assumption)) (fun _ _ _ => ?_)
  refine ge1_i ?_ ?_
  exact ge1_r (by assumption)
  refine ge1_b (ge1_212 (by assumption)) (fun _ _ _ => ?_)
  refine ge1_i ?_ ?_
  exact ge1_r (by assumption)
  exact ge1_r (by assumption)
theorem ge1_249_42 {F : wq_F} {v1 : Nat} {v2 : Nat} {v3 : Nat} (h : gm v F) : ge1 v (dk_249_42 F v1 v2 v3) := by
  unfold dk_249_42
  refine ge1_i ?_ ?_
  refine ge1_b (ge1_210 (by assumption)) (fun _ _ _ => ?_)
  refine ge1_b (ge1_209 (by assumption)) (fun _ _ _ => ?_)
  exact ge1_r (by assumption)
  refine ge1_b (ge1_216 (by assumption)) (fun _ _ _ => ?_)
  refine ge1_i ?_ ?_
  exact ge1_r (by assumption)
  refine ge1_b (ge1_215 (by assumption)) (fun _ _ _ => ?_)
  refine ge1_i ?_ ?_
  refine ge1_g ?_
  refine ge1_i ?_ ?_
  refine ge1_i ?_ ?_
  refine ge1_l (fun _ => ?_)
  refine ge1_g ?_
  refine ge1_i ?_ ?_
  refine ge1_l (fun _ => ?_)
  refine ge1_g ?_
  refine ge1_l (fun _ => ?_)
  refine ge1_l (fun _ => ?_)
  refine ge1_i ?_ ?_
  exact ge1_249_161 (by assumption)
  exact ge1_249_161 (by assumption)
  exact ge1_249_161 (by assumption)
  exact ge1_249_161 (by assumption)
  exact ge1_249_161 (by assumption)
  refine ge1_b (ge1_31 (by assumption)) (fun _ _ _ => ?_)
  refine ge1_b (ge1_31 (by assumption)) (fun _ _ _ => ?_)
  refine ge1_b (ge1_212 (by assumption)) (fun _ _ _ => ?_)
  exact ge1_r (by assumption)
theorem ge1_249 {F : wq_F} {a0 : Nat} {a1 : Nat} (h : gm v F) : ge1 v (dk_249 F a0 a1) := by
  unfold dk_249
  refine ge1_b (ge1_36 (by assumption)) (fun _ _ _ => ?_)
  refine ge1_i ?_ ?_
  refine ge1_b (ge1_36 (by assumption)) (fun _ _ _ => ?_)
  refine ge1_i ?_ ?_
  refine ge1_b (ge1_217 (by assumption)) (fun _ _ _ => ?_)
  refine ge1_i ?_ ?_
  refine ge1_b (ge1_211 (by assumption)) (fun _ _ _ => ?_)
  exact ge1_r (by assumption)
  exact ge1_249_42 (by assumption)
  exact ge1_249_42 (by assumption)
  refine ge1_u (by unfold gmx; omega) (by assumption) (fun _ _ => ?_)
  refine ge1_b (ge1_212 (by assumption)) (fun _ _ _ => ?_)
  exact ge1_r (by assumption)
theorem ge1_250 {F : wq_F} (h : gm v F) : ge1 v (dk_250 F) := by
  unfold dk_250
  refine ge1_b (ge1_36 (by assumption)) (fun _ _ _ => ?_)
  refine ge1_i ?_ ?_
  refine ge1_b (ge1_36 (by assumption)) (fun _ _ _ => ?_)
  refine ge1_i ?_ ?_
  exact ge1_r (by assumption)
  exact ge1_r (by assumption)
  exact ge1_r (by assumption)
theorem ge1_251 {F : wq_F} {a0 : Nat} {a1 : Nat} {a2 : Nat} (h : gm v F) : ge1 v (dk_251 F a0 a1 a2) := by
  unfold dk_251
  refine ge1_l (fun _ => ?_)
  refine ge1_u (by unfold gmx; omega) (by assumption) (fun _ _ => ?_)
  refine ge1_b (ge1_30 (by assumption)) (fun _ _ _ => ?_)
  refine ge1_b (ge1_31 (by assumption)) (fun _ _ _ => ?_)
  refine ge1_b (ge1_250 (by assumption)) (fun _ _ _ => ?_)
  refine ge1_i ?_ ?_
  refine ge1_b (ge1_36 (by assumption)) (fun _ _ _ => ?_)
  refine ge1_i ?_ ?_
  refine ge1_b (ge1_211 (by assumption)) (fun _ _ _ => ?_)
  refine ge1_i ?_ ?_
  exact ge1_r (by assumption)
  exact ge1_r (by assumption)
  exact ge1_r (by assumption)
  refine ge1_b (ge1_212 (by assumption)) (fun _ _ _ => ?_)
  exact ge1_r (by assumption)
theorem ge1_252_102 {F : wq_F} {v1 : Nat} {v2 : Nat} (h : gm v F) : ge1 v (dk_252_102 F v1 v2) := by
  unfold dk_252_102
  refine ge1_b (ge1_31 (by assumption)) (fun _ _ _ => ?_)
  exact ge1_r (by assumption)
theorem ge1_252_54 {F : wq_F} {v1 : Nat} {v2 : Nat} {v3 : Nat} (h : gm v F) : ge1 v (dk_252_54 F v1 v2 v3) := by
  unfold dk_252_54
  refine ge1_b (ge1_36 (by assumption)) (fun _ _ _ => ?_)
  refine ge1_i ?_ ?_
  refine ge1_b (ge1_30 (by assumption)) (fun _ _ _ => ?_)
  exact ge1_252_102 (by assumption)
  refine ge1_i ?_ ?_
  refine ge1_b (ge1_30 (by assumption)) (fun _ _ _ => ?_)
  exact ge1_252_102 (by assumption)
  refine ge1_g ?_
  refine ge1_u (by unfold gmx; omega) (by assumption) (fun _ _ => ?_)
  refine ge1_b (ge1_30 (by assumption)) (fun _ _ _ => ?_)
  exact ge1_252_102 (by assumption)
theorem ge1_252_35 {F : wq_F} {v1 : Nat} {v2 : Nat} {v3 : Nat} {v4 : Nat} (h : gm v F) : ge1 v (dk_252_35 F v1 v2 v3 v4) := by
  unfold dk_252_35
  refine ge1_i ?_ ?_
  refine ge1_b (ge1_36 (by assumption)) (fun _ _ _ => ?_)
  refine ge1_i ?_ ?_
  refine ge1_b (ge1_211 (by assumption)) (fun _ _ _ => ?_)
  exact ge1_r (by assumption)
  exact ge1_252_54 (by assumption)
  exact ge1_252_54 (by assumption)
theorem ge1_252 {F : wq_F} {a0 : Nat} {a1 : Nat} (h : gm v F) : ge1 v (dk_252 F a0 a1) := by
  unfold dk_252
  refine ge1_l (fun _ => ?_)
  refine ge1_u (by unfold gmx; omega) (by assumption) (fun _ _ => ?_)
  refine ge1_b (ge1_250 (by assumption)) (fun _ _ _ => ?_)
  refine ge1_i ?_ ?_
  exact ge1_252_35 (by assumption)
  refine ge1_b (ge1_212 (by assumption)) (fun _ _ _ => ?_)
  refine ge1_i ?_ ?_
  exact ge1_r (by assumption)
  exact ge1_252_35 (by assumption)
theorem ge1_21_3b {n : Nat} {r3 : wq_F → Nat → Nat → Option (Nat × wq_F)} {F : wq_F} {v1 : Nat} {v3 : Nat} (hr3 : ∀ K x0 x1, gm v K → ge1 v (r3 K x0 x1)) (h : gm v F) : ge1 v (dk_21_3b n r3 F v1 v3) := by
  unfold dk_21_3b
  refine ge1_i ?_ ?_
  exact ge1_r (by assumption)
  refine ge1_l (fun _ => ?_)
  refine ge1_i ?_ ?_
  refine ge1_g ?_
  refine ge1_u (by unfold gmx; omega) (by assumption) (fun _ _ => ?_)
  refine ge1_l (fun _ => ?_)
  refine ge1_u (by unfold gmx; omega) (by assumption) (fun _ _ => ?_)
  refine ge1_l (fun _ => ?_)
  exact hr3 _ _ _ (by assumption)
  refine ge1_l (fun _ => ?_)
  exact hr3 _ _ _ (by assumption)
theorem ge1_21_3 {n : Nat} {g : Nat} {F : wq_F} {x0 : Nat} {x1 : Nat} (h : gm v F) : ge1 v (dk_21_3 n g F x0 x1) := by
  induction g generalizing F x0 x1 with
  | zero => exact ge1_n
  | succ g ih =>
    exact ge1_21_3b (fun K x0 x1 h => by first | exact ih h | exact ih K x0 x1 h) h
theorem ge1_21 {n : Nat} {F : wq_F} {a0 : Nat} (h : gm v F) : ge1 v (dk_21 n F a0) := by
  unfold dk_21
  exact ge1_21_3 (by assumption)
theorem ge1_23_4b {n : Nat} {r4 : wq_F → Nat → Nat → Nat → Option (Nat × wq_F)} {F : wq_F} {v1 : Nat} {v2 : Nat} {v3 : Nat} (hr4 : ∀ K x0 x1 x2, gm v K → ge1 v (r4 K x0 x1 x2)) (h : gm v F) : ge1 v (dk_23_4b n r4 F v1 v2 v3) := by
  unfold dk_23_4b
  refine ge1_i ?_ ?_
  refine ge1_g ?_
  refine ge1_l (fun _ => ?_)
  refine ge1_l (fun _ => ?_)
  exact hr4 _ _ _ _ (by assumption)
  refine ge1_l (fun _ => ?_)
  exact ge1_r (by assumption)
theorem ge1_23_4 {n : Nat} {g : Nat} {F : wq_F} {x0 : Nat} {x1 : Nat} {x2 : Nat} (h : gm v F) : ge1 v (dk_23_4 n g F x0 x1 x2) := by
  induction g generalizing F x0 x1 x2 with
  | zero => exact ge1_n
  | succ g ih =>
    exact ge1_23_4b (fun K x0 x1 x2 h => by first | exact ih h | exact ih K x0 x1 x2 h) h
theorem ge1_23 {n : Nat} {F : wq_F} {a0 : Nat} (h : gm v F) : ge1 v (dk_23 n F a0) := by
  unfold dk_23
  exact ge1_23_4 (by assumption)
theorem ge1_22_196b {n : Nat} {r196 : wq_F → Nat → Nat → Option (Nat × wq_F)} {F : wq_F} {v3 : Nat} {v4 : Nat} (hr196 : ∀ K x0 x1, gm v K → ge1 v (r196 K x0 x1)) (h : gm v F) : ge1 v (dk_22_196b n r196 F v3 v4) := by
  unfold dk_22_196b
  refine ge1_i ?_ ?_
  refine ge1_g ?_
  refine ge1_g ?_
  refine ge1_u (by unfold gmx; omega) (by assumption) (fun _ _ => ?_)
  refine ge1_l (fun _ => ?_)
  exact hr196 _ _ _ (by assumption)
  refine ge1_l (fun _ => ?_)
  refine ge1_u (by unfold gmx; omega) (by assumption) (fun _ _ => ?_)
  exact ge1_r (by assumption)
theorem ge1_22_196 {n : Nat} {g : Nat} {F : wq_F} {x0 : Nat} {x1 : Nat} (h : gm v F) : ge1 v (dk_22_196 n g F x0 x1) := by
  induction g generalizing F x0 x1 with
  | zero => exact ge1_n
  | succ g ih =>
    exact ge1_22_196b (fun K x0 x1 h => by first | exact ih h | exact ih K x0 x1 h) h
theorem ge1_22_94 {n : Nat} {r16 : wq_F → Nat → Nat → Nat → Option (Nat × wq_F)} {F : wq_F} {v1 : Nat} {v2 : Nat} {v3 : Nat} {v4 : Nat} (hr16 : ∀ K x0 x1 x2, gm v K → ge1 v (r16 K x0 x1 x2)) (h : gm v F) : ge1 v (dk_22_94 n r16 F v1 v2 v3 v4) := by
  unfold dk_22_94
  refine ge1_i ?_ ?_
  refine ge1_g ?_
  exact hr16 _ _ _ _ (by assumption)
  refine ge1_i ?_ ?_
  refine ge1_g ?_
  refine ge1_u (by unfold gmx; omega) (by assumption) (fun _ _ => ?_)
  exact ge1_r (by assumption)
  refine ge1_g ?_
  refine ge1_g ?_
  refine ge1_u (by unfold gmx; omega) (by assumption) (fun _ _ => ?_)
  exact ge1_r (by assumption)
theorem ge1_22_43b {n : Nat} {r16 : wq_F → Nat → Nat → Nat → Option (Nat × wq_F)} {r43 : wq_F → Nat → Nat → Nat → Nat → Nat → Option (Nat × wq_F)} {F : wq_F} {v1 : Nat} {v2 : Nat} {v3 : Nat} {v4 : Nat} {v5 : Nat} (hr16 : ∀ K x0 x1 x2, gm v K → ge1 v (r16 K x0 x1 x2)) (hr43 : ∀ K x0 x1 x2 x3 x4, gm v K → ge1 v (r43 K x0 x1 x2 x3 x4)) (h : gm v F) : ge1 v (dk_22_43b n r16 r43 F v1 v2 v3 v4 v5) := by
  unfold dk_22_43b
  refine ge1_i ?_ ?_
  refine ge1_i ?_ ?_
  exact ge1_22_94 hr16 (by assumption)
  refine ge1_g ?_
  refine ge1_g ?_
  refine ge1_l (fun _ => ?_)
  refine ge1_g ?_
  refine ge1_i ?_ ?_
  refine ge1_l (fun _ => ?_)
  exact hr43 _ _ _ _ _ _ (by assumption)
  refine ge1_l (fun _ => ?_)
  exact hr43 _ _ _ _ _ _ (by assumption)
  exact ge1_22_94 hr16 (by assumption)
theorem ge1_22_43 {n : Nat} {r16 : wq_F → Nat → Nat → Nat → Option (Nat × wq_F)} {g : Nat} {F : wq_F} {x0 : Nat} {x1 : Nat} {x2 : Nat} {x3 : Nat} {x4 : Nat} (hr16 : ∀ K x0 x1 x2, gm v K → ge1 v (r16 K x0 x1 x2)) (h : gm v F) : ge1 v (dk_22_43 n r16 g F x0 x1 x2 x3 x4) := by
  induction g generalizing F x0 x1 x2 x3 x4 with
  | zero => exact ge1_n
  | succ g ih =>
    exact ge1_22_43b hr16 (fun K x0 x1 x2 x3 x4 h => by first | exact ih h | exact ih K x0 x1 x2 x3 x4 h) h
theorem ge1_22_16b {n : Nat} {r16 : wq_F → Nat → Nat → Nat → Option (Nat × wq_F)} {F : wq_F} {v1 : Nat} {v2 : Nat} {v3 : Nat} (hr16 : ∀ K x0 x1 x2, gm v K → ge1 v (r16 K x0 x1 x2)) (h : gm v F) : ge1 v (dk_22_16b n r16 F v1 v2 v3) := by
  unfold dk_22_16b
  refine ge1_i ?_ ?_
  refine ge1_u (by unfold gmx; omega) (by assumption) (fun _ _ => ?_)
  refine ge1_g ?_
  refine ge1_u (by unfold gmx; omega) (by assumption) (fun _ _ => ?_)
  refine ge1_g ?_
  refine ge1_u (by unfold gmx; omega) (by assumption) (fun _ _ => ?_)
  refine ge1_g ?_
  refine ge1_u (by unfold gmx; omega) (by assumption) (fun _ _ => ?_)
  refine ge1_g ?_
  refine ge1_g ?_
  refine ge1_u (by unfold gmx; omega) (by assumption) (fun _ _ => ?_)
  refine ge1_g ?_
  refine ge1_u (by unfold gmx; omega) (by assumption) (fun _ _ => ?_)
  exact ge1_22_196 (by assumption)
  refine ge1_g ?_
  refine ge1_i ?_ ?_
  exact ge1_22_43 hr16 (by assumption)
  exact ge1_22_43 hr16 (by assumption)
theorem ge1_22_16 {n : Nat} {g : Nat} {F : wq_F} {x0 : Nat} {x1 : Nat} {x2 : Nat} (h : gm v F) : ge1 v (dk_22_16 n g F x0 x1 x2) := by
  induction g generalizing F x0 x1 x2 with
  | zero => exact ge1_n
  | succ g ih =>
    exact ge1_22_16b (fun K x0 x1 x2 h => by first | exact ih h | exact ih K x0 x1 x2 h) h
theorem ge1_22 {n : Nat} {F : wq_F} {a0 : Nat} (h : gm v F) : ge1 v (dk_22 n F a0) := by
  unfold dk_22
  refine ge1_b (ge1_23 (by assumption)) (fun _ _ _ => ?_)
  refine ge1_g ?_
  exact ge1_22_16 (by assumption)
theorem ge1_254_16b {n : Nat} {r16 : wq_F → Nat → Nat → Option (Nat × wq_F)} {F : wq_F} {v1 : Nat} {v2 : Nat} (hr16 : ∀ K x0 x1, gm v K → ge1 v (r16 K x0 x1)) (h : gm v F) : ge1 v (dk_254_16b n r16 F v1 v2) := by
  unfold dk_254_16b
  refine ge1_i ?_ ?_
  refine ge1_b (ge1_213 (by assumption)) (fun _ _ _ => ?_)
  exact ge1_r (by assumption)
  refine ge1_b (ge1_36 (by assumption)) (fun _ _ _ => ?_)
  refine ge1_i ?_ ?_
  refine ge1_g ?_
  refine ge1_i ?_ ?_
  refine ge1_b (ge1_210 (by assumption)) (fun _ _ _ => ?_)
  refine ge1_b (ge1_219 (by assumption)) (fun _ _ _ => ?_)
  refine ge1_i ?_ ?_
  exact ge1_r (by assumption)
  refine ge1_g ?_
  refine ge1_l (fun _ => ?_)
  refine ge1_b (ge1_220 (by assumption)) (fun _ _ _ => ?_)
  refine ge1_b (ge1_212 (by assumption)) (fun _ _ _ => ?_)
  refine ge1_i ?_ ?_
  exact ge1_r (by assumption)
  refine ge1_b (ge1_36 (by assumption)) (fun _ _ _ => ?_)
  refine ge1_i ?_ ?_
  exact hr16 _ _ _ (by assumption)
  refine ge1_b (ge1_212 (by assumption)) (fun _ _ _ => ?_)
  refine ge1_i ?_ ?_
  exact ge1_r (by assumption)
  exact hr16 _ _ _ (by assumption)
  refine ge1_b (ge1_211 (by assumption)) (fun _ _ _ => ?_)
  exact ge1_r (by assumption)
  refine ge1_g ?_
  refine ge1_u (by unfold gmx; omega) (by assumption) (fun _ _ => ?_)
  refine ge1_b (ge1_212 (by assumption)) (fun _ _ _ => ?_)
  refine ge1_i ?_ ?_
  exact ge1_r (by assumption)
  refine ge1_b (ge1_213 (by assumption)) (fun _ _ _ => ?_)
  refine ge1_i ?_ ?_
  exact ge1_r (by assumption)
  exact ge1_r (by assumption)
theorem ge1_254_16 {n : Nat} {g : Nat} {F : wq_F} {x0 : Nat} {x1 : Nat} (h : gm v F) : ge1 v (dk_254_16 n g F x0 x1) := by
  induction g generalizing F x0 x1 with
  | zero => exact ge1_n
  | succ g ih =>
    exact ge1_254_16b (fun K x0 x1 h => by first | exact ih h | exact ih K x0 x1 h) h
theorem ge1_254 {n : Nat} {F : wq_F} {a0 : Nat} (h : gm v F) : ge1 v (dk_254 n F a0) := by
  unfold dk_254
  refine ge1_b (ge1_36 (by assumption)) (fun _ _ _ => ?_)
  refine ge1_i ?_ ?_
  exact ge1_254_16 (by assumption)
  refine ge1_b (ge1_212 (by assumption)) (fun _ _ _ => ?_)
  exact ge1_r (by assumption)
theorem ge1_253_175 {n : Nat} {F : wq_F} {v2 : Nat} {v3 : Nat} (h : gm v F) : ge1 v (dk_253_175 n F v2 v3) := by
  unfold dk_253_175
  refine ge1_b (ge1_212 (by assumption)) (fun _ _ _ => ?_)
  refine ge1_i ?_ ?_
  exact ge1_r (by assumption)
  refine ge1_b (ge1_254 (by assumption)) (fun _ _ _ => ?_)
  refine ge1_i ?_ ?_
  exact ge1_r (by assumption)
  refine ge1_g ?_
  refine ge1_g ?_
  refine ge1_u (by unfold gmx; omega) (by assumption) (fun _ _ => ?_)
  refine ge1_b (ge1_31 (by assumption)) (fun _ _ _ => ?_)
  refine ge1_b (ge1_31 (by assumption)) (fun _ _ _ => ?_)
  exact ge1_r (by assumption)
theorem ge1_253 {n : Nat} {F : wq_F} {a0 : Nat} (h : gm v F) : ge1 v (dk_253 n F a0) := by
  unfold dk_253
  refine ge1_b (ge1_36 (by assumption)) (fun _ _ _ => ?_)
  refine ge1_i ?_ ?_
  refine ge1_b (ge1_211 (by assumption)) (fun _ _ _ => ?_)
  exact ge1_r (by assumption)
  refine ge1_i ?_ ?_
  refine ge1_b (ge1_210 (by assumption)) (fun _ _ _ => ?_)
  refine ge1_b (ge1_209 (by assumption)) (fun _ _ _ => ?_)
  exact ge1_r (by assumption)
  refine ge1_b (ge1_30 (by assumption)) (fun _ _ _ => ?_)
  refine ge1_l (fun _ => ?_)
  refine ge1_u (by unfold gmx; omega) (by assumption) (fun _ _ => ?_)
  refine ge1_l (fun _ => ?_)
  refine ge1_u (by unfold gmx; omega) (by assumption) (fun _ _ => ?_)
  refine ge1_g ?_
  refine ge1_u (by unfold gmx; omega) (by assumption) (fun _ _ => ?_)
  refine ge1_g ?_
  refine ge1_u (by unfold gmx; omega) (by assumption) (fun _ _ => ?_)
  refine ge1_g ?_
  refine ge1_u (by unfold gmx; omega) (by assumption) (fun _ _ => ?_)
  refine ge1_g ?_
  refine ge1_u (by unfold gmx; omega) (by assumption) (fun _ _ => ?_)
  refine ge1_g ?_
  refine ge1_u (by unfold gmx; omega) (by assumption) (fun _ _ => ?_)
  refine ge1_b (ge1_215 (by assumption)) (fun _ _ _ => ?_)
  refine ge1_g ?_
  refine ge1_u (by unfold gmx; omega) (by assumption) (fun _ _ => ?_)
  refine ge1_g ?_
  refine ge1_u (by unfold gmx; omega) (by assumption) (fun _ _ => ?_)
  refine ge1_b (ge1_30 (by assumption)) (fun _ _ _ => ?_)
  refine ge1_i ?_ ?_
  refine ge1_u (by unfold gmx; omega) (by assumption) (fun _ _ => ?_)
  refine ge1_b (ge1_21 (by assumption)) (fun _ _ _ => ?_)
  refine ge1_b (ge1_22 (by assumption)) (fun _ _ _ => ?_)
  refine ge1_b (ge1_210 (by assumption)) (fun _ _ _ => ?_)
  refine ge1_b (ge1_219 (by assumption)) (fun _ _ _ => ?_)
  refine ge1_b (ge1_220 (by assumption)) (fun _ _ _ => ?_)
  exact ge1_253_175 (by assumption)
  exact ge1_253_175 (by assumption)
theorem ge1_255 {F : wq_F} {a0 : Nat} {a1 : Nat} (h : gm v F) : ge1 v (dk_255 F a0 a1) := by
  unfold dk_255
  refine ge1_b (ge1_214 (by assumption)) (fun _ _ _ => ?_)
  refine ge1_i ?_ ?_
  exact ge1_r (by assumption)
  refine ge1_b (ge1_30 (by assumption)) (fun _ _ _ => ?_)
  refine ge1_b (ge1_30 (by assumption)) (fun _ _ _ => ?_)
  refine ge1_g ?_
  refine ge1_u (by unfold gmx; omega) (by assumption) (fun _ _ => ?_)
  refine ge1_l (fun _ => ?_)
  refine ge1_u (by unfold gmx; omega) (by assumption) (fun _ _ => ?_)
  refine ge1_g ?_
  refine ge1_u (by unfold gmx; omega) (by assumption) (fun _ _ => ?_)
  refine ge1_b (ge1_30 (by assumption)) (fun _ _ _ => ?_)
  refine ge1_u (by unfold gmx; omega) (by assumption) (fun _ _ => ?_)
  exact ge1_r (by assumption)
theorem ge1_256_200 {F : wq_F} {v1 : Nat} (h : gm v F) : ge1 v (dk_256_200 F v1) := by
  unfold dk_256_200
  refine ge1_l (fun _ => ?_)
  refine ge1_i ?_ ?_
  refine ge1_b (ge1_210 (by assumption)) (fun _ _ _ => ?_)
  refine ge1_b (ge1_209 (by assumption)) (fun _ _ _ => ?_)
  exact ge1_r (by assumption)
  refine ge1_b (ge1_31 (by assumption)) (fun _ _ _ => ?_)
  refine ge1_b (ge1_31 (by assumption)) (fun _ _ _ => ?_)
  exact ge1_r (by assumption)
theorem ge1_256_32 {F : wq_F} {v1 : Nat} {v2 : Nat} (h : gm v F) : ge1 v (dk_256_32 F v1 v2) := by
  unfold dk_256_32
  refine ge1_i ?_ ?_
  refine ge1_b (ge1_211 (by assumption)) (fun _ _ _ => ?_)
  exact ge1_r (by assumption)
  refine ge1_g ?_
  refine ge1_u (by unfold gmx; omega) (by assumption) (fun _ _ => ?_)
  refine ge1_g ?_
  refine ge1_u (by unfold gmx; omega) (by assumption) (fun _ _ => ?_)
  refine ge1_g ?_
  refine ge1_u (by unfold gmx; omega) (by assumption) (fun _ _ => ?_)
  refine ge1_l (fun _ => ?_)
  refine ge1_u (by unfold gmx; omega) (by assumption) (fun _ _ => ?_)
  refine ge1_b (ge1_36 (by assumption)) (fun _ _ _ => ?_)
  refine ge1_i ?_ ?_
  refine ge1_b (ge1_212 (by assumption)) (fun _ _ _ => ?_)
  refine ge1_i ?_ ?_
  exact ge1_r (by assumption)
  refine ge1_g ?_
  refine ge1_i ?_ ?_
  exact ge1_256_200 (by assumption)
  refine ge1_b (ge1_36 (by assumption)) (fun _ _ _ => ?_)
  refine ge1_i ?_ ?_
  refine ge1_b (ge1_211 (by assumption)) (fun _ _ _ => ?_)
  exact ge1_r (by assumption)
  exact ge1_256_200 (by assumption)
  refine ge1_b (ge1_215 (by assumption)) (fun _ _ _ => ?_)
  refine ge1_b (ge1_212 (by assumption)) (fun _ _ _ => ?_)
  refine ge1_i ?_ ?_
  exact ge1_r (by assumption)
  refine ge1_b (ge1_217 (by assumption)) (fun _ _ _ => ?_)
  refine ge1_i ?_ ?_
  refine ge1_b (ge1_211 (by assumption)) (fun _ _ _ => ?_)
  exact ge1_r (by assumption)
  refine ge1_b (ge1_30 (by assumption)) (fun _ _ _ => ?_)
  refine ge1_b (ge1_31 (by assumption)) (fun _ _ _ => ?_)
  refine ge1_b (ge1_31 (by assumption)) (fun _ _ _ => ?_)
  refine ge1_b (ge1_31 (by assumption)) (fun _ _ _ => ?_)
  exact ge1_r (by assumption)
theorem ge1_256_13 {F : wq_F} {v1 : Nat} {s0 : Nat} (h : gm v F) : ge1 v (dk_256_13 F v1 s0) := by
  unfold dk_256_13
  refine ge1_b (ge1_36 (by assumption)) (fun _ _ _ => ?_)
  refine ge1_i ?_ ?_
  refine ge1_b (ge1_36 (by assumption)) (fun _ _ _ => ?_)
  refine ge1_i ?_ ?_
  refine ge1_i ?_ ?_
  refine ge1_i ?_ ?_
  refine ge1_b (ge1_211 (by assumption)) (fun _ _ _ => ?_)
  exact ge1_r (by assumption)
  refine ge1_g ?_
  refine ge1_u (by unfold gmx; omega) (by assumption) (fun _ _ => ?_)
  refine ge1_b (ge1_30 (by assumption)) (fun _ _ _ => ?_)
  exact ge1_r (by assumption)
  refine ge1_b (ge1_211 (by assumption)) (fun _ _ _ => ?_)
  exact ge1_r (by assumption)
  exact ge1_256_32 (by assumption)
  exact ge1_256_32 (by assumption)
theorem ge1_256 {F : wq_F} {a0 : Nat} (h : gm v F) : ge1 v (dk_256 F a0) := by
  unfold dk_256
  refine ge1_i ?_ ?_
  exact ge1_256_13 (by assumption)
  exact ge1_256_13 (by assumption)
theorem ge1_257_80b {n : Nat} {r80 : wq_F → Nat → Nat → Nat → Option (Nat × wq_F)} {F : wq_F} {v1 : Nat} {v5 : Nat} {v6 : Nat} (hr80 : ∀ K x0 x1 x2, gm v K → ge1 v (r80 K x0 x1 x2)) (h : gm v F) : ge1 v (dk_257_80b n r80 F v1 v5 v6) := by
  unfold dk_257_80b
  refine ge1_i ?_ ?_
  refine ge1_u (by unfold gmx; omega) (by assumption) (fun _ _ => ?_)
  refine ge1_b (ge1_30 (by assumption)) (fun _ _ _ => ?_)
  exact ge1_r (by assumption)
  refine ge1_g ?_
  refine ge1_i ?_ ?_
  refine ge1_l (fun _ => ?_)
  refine ge1_g ?_
  refine ge1_b (ge1_30 (by assumption)) (fun _ _ _ => ?_)
  refine ge1_l (fun _ => ?_)
  exact hr80 _ _ _ _ (by assumption)
  refine ge1_g ?_
  refine ge1_g ?_
  refine ge1_b (ge1_30 (by assumption)) (fun _ _ _ => ?_)
  refine ge1_l (fun _ => ?_)
  exact hr80 _ _ _ _ (by assumption)
theorem ge1_257_80 {n : Nat} {g : Nat} {F : wq_F} {x0 : Nat} {x1 : Nat} {x2 : Nat} (h : gm v F) : ge1 v (dk_257_80 n g F x0 x1 x2) := by
  induction g generalizing F x0 x1 x2 with
  | zero => exact ge1_n
  | succ g ih =>
    exact ge1_257_80b (fun K x0 x1 x2 h => by first | exact ih h | exact ih K x0 x1 x2 h) h
theorem ge1_257_35b {n : Nat} {r35 : wq_F → Nat → Nat → Nat → Option (Nat × wq_F)} {F : wq_F} {v1 : Nat} {v5 : Nat} {v6 : Nat} (hr35 : ∀ K x0 x1 x2, gm v K → ge1 v (r35 K x0 x1 x2)) (h : gm v F) : ge1 v (dk_257_35b n r35 F v1 v5 v6) := by
  unfold dk_257_35b
  refine ge1_i ?_ ?_
  refine ge1_g ?_
  refine ge1_i ?_ ?_
  refine ge1_l (fun _ => ?_)
  exact hr35 _ _ _ _ (by assumption)
  refine ge1_l (fun _ => ?_)
  exact hr35 _ _ _ _ (by assumption)
  refine ge1_l (fun _ => ?_)
  exact ge1_257_80 (by assumption)
theorem ge1_257_35 {n : Nat} {g : Nat} {F : wq_F} {x0 : Nat} {x1 : Nat} {x2 : Nat} (h : gm v F) : ge1 v (dk_257_35 n g F x0 x1 x2) := by
  induction g generalizing F x0 x1 x2 with
  | zero => exact ge1_n
  | succ g ih =>
    exact ge1_257_35b (fun K x0 x1 x2 h => by first | exact ih h | exact ih K x0 x1 x2 h) h
theorem ge1_257 {n : Nat} {F : wq_F} {a0 : Nat} {a1 : Nat} (h : gm v F) : ge1 v (dk_257 n F a0 a1) := by
  unfold dk_257
  refine ge1_l (fun _ => ?_)
  refine ge1_b (ge1_30 (by assumption)) (fun _ _ _ => ?_)
  refine ge1_b (ge1_30 (by assumption)) (fun _ _ _ => ?_)
  exact ge1_257_35 (by assumption)
theorem ge1_258 {F : wq_F} {a0 : Nat} (h : gm v F) : ge1 v (dk_258 F a0) := by
  unfold dk_258
  refine ge1_b (ge1_214 (by assumption)) (fun _ _ _ => ?_)
  refine ge1_i ?_ ?_
  exact ge1_r (by assumption)
  refine ge1_b (ge1_30 (by assumption)) (fun _ _ _ => ?_)
  refine ge1_b (ge1_31 (by assumption)) (fun _ _ _ => ?_)
  refine ge1_b (ge1_224 (by assumption)) (fun _ _ _ => ?_)
  exact ge1_r (by assumption)
theorem ge1_260_2b {n : Nat} {r2 : wq_F → Nat → Option (Nat × wq_F)} {F : wq_F} {v2 : Nat} (hr2 : ∀ K x0, gm v K → ge1 v (r2 K x0)) (h : gm v F) : ge1 v (dk_260_2b n r2 F v2) := by
  unfold dk_260_2b
  refine ge1_i ?_ ?_
  refine ge1_b (ge1_214 (by assumption)) (fun _ _ _ => ?_)
  exact ge1_r (by assumption)
  refine ge1_g ?_
  refine ge1_g ?_
  refine ge1_u (by unfold gmx; omega) (by assumption) (fun _ _ => ?_)
  exact hr2 _ _ (by assumption)
theorem ge1_260_2 {n : Nat} {g : Nat} {F : wq_F} {x0 : Nat} (h : gm v F) : ge1 v (dk_260_2 n g F x0) := by
  induction g generalizing F x0 with
  | zero => exact ge1_n
  | succ g ih =>
    exact ge1_260_2b (fun K x0 h => by first | exact ih h | exact ih K x0 h) h
theorem ge1_260 {n : Nat} {F : wq_F} {a0 : Nat} (h : gm v F) : ge1 v (dk_260 n F a0) := by
  unfold dk_260
  exact ge1_260_2 (by assumption)
theorem ge1_259_18 {n : Nat} {F : wq_F} {v1 : Nat} {v2 : Nat} (h : gm v F) : ge1 v (dk_259_18 n F v1 v2) := by
  unfold dk_259_18
  refine ge1_b (ge1_34 (by assumption)) (fun _ _ _ => ?_)
  refine ge1_b (ge1_30 (by assumption)) (fun _ _ _ => ?_)
  refine ge1_g ?_
  refine ge1_u (by unfold gmx; omega) (by assumption) (fun _ _ => ?_)
  refine ge1_b (ge1_212 (by assumption)) (fun _ _ _ => ?_)
  refine ge1_i ?_ ?_
  exact ge1_r (by assumption)
  refine ge1_i ?_ ?_
  refine ge1_b (ge1_31 (by assumption)) (fun _ _ _ => ?_)
  refine ge1_b (ge1_224 (by assumption)) (fun _ _ _ => ?_)
  exact ge1_r (by assumption)
  refine ge1_b (ge1_31 (by assumption)) (fun _ _ _ => ?_)
  refine ge1_b (ge1_31 (by assumption)) (fun _ _ _ => ?_)
  exact ge1_r (by assumption)
theorem ge1_259 {n : Nat} {F : wq_F} {a0 : Nat} {a1 : Nat} (h : gm v F) : ge1 v (dk_259 n F a0 a1) := by
  unfold dk_259
  refine ge1_b (ge1_34 (by assumption)) (fun _ _ _ => ?_)
  refine ge1_i ?_ ?_
  refine ge1_b (ge1_34 (by assumption)) (fun _ _ _ => ?_)
  refine ge1_i ?_ ?_
  refine ge1_g ?_
  refine ge1_u (by unfold gmx; omega) (by assumption) (fun _ _ => ?_)
  refine ge1_b (ge1_260 (by assumption)) (fun _ _ _ => ?_)
  exact ge1_r (by assumption)
  exact ge1_259_18 (by assumption)
  exact ge1_259_18 (by assumption)
theorem ge1_261 {F : wq_F} {a0 : Nat} (h : gm v F) : ge1 v (dk_261 F a0) := by
  unfold dk_261
  refine ge1_b (ge1_214 (by assumption)) (fun _ _ _ => ?_)
  refine ge1_i ?_ ?_
  exact ge1_r (by assumption)
  refine ge1_b (ge1_227 (by assumption)) (fun _ _ _ => ?_)
  refine ge1_l (fun _ => ?_)
  refine ge1_b (ge1_30 (by assumption)) (fun _ _ _ => ?_)
  refine ge1_g ?_
  refine ge1_u (by unfold gmx; omega) (by assumption) (fun _ _ => ?_)
  refine ge1_b (ge1_218 (by assumption)) (fun _ _ _ => ?_)
  refine ge1_g ?_
  refine ge1_b (ge1_31 (by assumption)) (fun _ _ _ => ?_)
  refine ge1_b (ge1_224 (by assumption)) (fun _ _ _ => ?_)
  exact ge1_r (by assumption)
theorem ge1_228_20b {n : Nat} {r20 : wq_F → Nat → Nat → Option (Nat × wq_F)} {F : wq_F} {v1 : Nat} {v2 : Nat} (hr20 : ∀ K x0 x1, gm v K → ge1 v (r20 K x0 x1)) (h : gm v F) : ge1 v (dk_228_20b n r20 F v1 v2) := by
  unfold dk_228_20b
  refine ge1_i ?_ ?_
  refine ge1_b (ge1_30 (by assumption)) (fun _ _ _ => ?_)
  exact ge1_r (by assumption)
  refine ge1_g ?_
  refine ge1_g ?_
  refine ge1_u (by unfold gmx; omega) (by assumption) (fun _ _ => ?_)
  exact hr20 _ _ _ (by assumption)
theorem ge1_228_20 {n : Nat} {g : Nat} {F : wq_F} {x0 : Nat} {x1 : Nat} (h : gm v F) : ge1 v (dk_228_20 n g F x0 x1) := by
  induction g generalizing F x0 x1 with
  | zero => exact ge1_n
  | succ g ih =>
    exact ge1_228_20b (fun K x0 x1 h => by first | exact ih h | exact ih K x0 x1 h) h
theorem ge1_228 {n : Nat} {F : wq_F} {a0 : Nat} (h : gm v F) : ge1 v (dk_228 n F a0) := by
  unfold dk_228
  refine ge1_l (fun _ => ?_)
  refine ge1_u (by unfold gmx; omega) (by assumption) (fun _ _ => ?_)
  refine ge1_g ?_
  exact ge1_228_20 (by assumption)
theorem ge1_262 {n : Nat} {F : wq_F} {a0 : Nat} {a1 : Nat} (h : gm v F) : ge1 v (dk_262 n F a0 a1) := by
  unfold dk_262
  refine ge1_b (ge1_214 (by assumption)) (fun _ _ _ => ?_)
  refine ge1_i ?_ ?_
  exact ge1_r (by assumption)
  refine ge1_b (ge1_30 (by assumption)) (fun _ _ _ => ?_)
  refine ge1_b (ge1_228 (by assumption)) (fun _ _ _ => ?_)
  exact ge1_r (by assumption)
theorem ge1_263 {F : wq_F} {a0 : Nat} {a1 : Nat} {a2 : Nat} (h : gm v F) : ge1 v (dk_263 F a0 a1 a2) := by
  unfold dk_263
  refine ge1_b (ge1_214 (by assumption)) (fun _ _ _ => ?_)
  refine ge1_i ?_ ?_
  exact ge1_r (by assumption)
  refine ge1_b (ge1_30 (by assumption)) (fun _ _ _ => ?_)
  refine ge1_b (ge1_31 (by assumption)) (fun _ _ _ => ?_)
  refine ge1_b (ge1_31 (by assumption)) (fun _ _ _ => ?_)
  exact ge1_r (by assumption)
theorem ge1_264 {n : Nat} {F : wq_F} {a0 : Nat} {a1 : Nat} {a2 : Nat} (h : gm v F) : ge1 v (dk_264 n F a0 a1 a2) := by
  unfold dk_264
  refine ge1_b (ge1_225 (by assumption)) (fun _ _ _ => ?_)
  refine ge1_b (ge1_30 (by assumption)) (fun _ _ _ => ?_)
  refine ge1_b (ge1_228 (by assumption)) (fun _ _ _ => ?_)
  exact ge1_r (by assumption)
theorem ge1_265 {F : wq_F} {a0 : Nat} {a1 : Nat} {a2 : Nat} (h : gm v F) : ge1 v (dk_265 F a0 a1 a2) := by
  unfold dk_265
  refine ge1_b (ge1_213 (by assumption)) (fun _ _ _ => ?_)
  refine ge1_i ?_ ?_
  exact ge1_r (by assumption)
  refine ge1_b (ge1_31 (by assumption)) (fun _ _ _ => ?_)
  refine ge1_b (ge1_31 (by assumption)) (fun _ _ _ => ?_)
  exact ge1_r (by assumption)
theorem ge1_267 {F : wq_F} {a0 : Nat} {a1 : Nat} {a2 : Nat} (h : gm v F) : ge1 v (dk_267 F a0 a1 a2) := by
  unfold dk_267
  refine ge1_b (ge1_214 (by assumption)) (fun _ _ _ => ?_)
  refine ge1_i ?_ ?_
  exact ge1_r (by assumption)
  refine ge1_b (ge1_30 (by assumption)) (fun _ _ _ => ?_)
  refine ge1_b (ge1_30 (by assumption)) (fun _ _ _ => ?_)
  refine ge1_b (ge1_227 (by assumption)) (fun _ _ _ => ?_)
  refine ge1_l (fun _ => ?_)
  refine ge1_b (ge1_30 (by assumption)) (fun _ _ _ => ?_)
  refine ge1_g ?_
  refine ge1_u (by unfold gmx; omega) (by assumption) (fun _ _ => ?_)
  refine ge1_b (ge1_31 (by assumption)) (fun _ _ _ => ?_)
  refine ge1_g ?_
  refine ge1_l (fun _ => ?_)
  refine ge1_b (ge1_220 (by assumption)) (fun _ _ _ => ?_)
  refine ge1_b (ge1_31 (by assumption)) (fun _ _ _ => ?_)
  exact ge1_r (by assumption)
theorem ge1_266 {F : wq_F} {a0 : Nat} {a1 : Nat} {a2 : Nat} (h : gm v F) : ge1 v (dk_266 F a0 a1 a2) := by
  unfold dk_266
  refine ge1_b (ge1_36 (by assumption)) (fun _ _ _ => ?_)
  refine ge1_i ?_ ?_
  refine ge1_g ?_
  refine ge1_u (by unfold gmx; omega) (by assumption) (fun _ _ => ?_)
  refine ge1_b (ge1_30 (by assumption)) (fun _ _ _ => ?_)
  refine ge1_l (fun _ => ?_)
  refine ge1_u (by unfold gmx; omega) (by assumption) (fun _ _ => ?_)
  refine ge1_b (ge1_267 (by assumption)) (fun _ _ _ => ?_)
  exact ge1_r (by assumption)
  refine ge1_b (ge1_31 (by assumption)) (fun _ _ _ => ?_)
  refine ge1_b (ge1_31 (by assumption)) (fun _ _ _ => ?_)
  refine ge1_b (ge1_212 (by assumption)) (fun _ _ _ => ?_)
  exact ge1_r (by assumption)
theorem ge1_268 {n : Nat} {F : wq_F} {a0 : Nat} {a1 : Nat} {a2 : Nat} (h : gm v F) : ge1 v (dk_268 n F a0 a1 a2) := by
  unfold dk_268
  refine ge1_b (ge1_214 (by assumption)) (fun _ _ _ => ?_)
  refine ge1_i ?_ ?_
  exact ge1_r (by assumption)
  refine ge1_b (ge1_225 (by assumption)) (fun _ _ _ => ?_)
  refine ge1_l (fun _ => ?_)
  refine ge1_l (fun _ => ?_)
  refine ge1_g ?_
  refine ge1_b (ge1_30 (by assumption)) (fun _ _ _ => ?_)
  refine ge1_g ?_
  refine ge1_u (by unfold gmx; omega) (by assumption) (fun _ _ => ?_)
  refine ge1_b (ge1_228 (by assumption)) (fun _ _ _ => ?_)
  refine ge1_b (ge1_30 (by assumption)) (fun _ _ _ => ?_)
  exact ge1_r (by assumption)
theorem ge1_269_114b {n : Nat} {r114 : wq_F → Nat → Nat → Nat → Nat → Option (Nat × wq_F)} {F : wq_F} {v2 : Nat} {v4 : Nat} {v5 : Nat} {v8 : Nat} (hr114 : ∀ K x0 x1 x2 x3, gm v K → ge1 v (r114 K x0 x1 x2 x3)) (h : gm v F) : ge1 v (dk_269_114b n r114 F v2 v4 v5 v8) := by
  unfold dk_269_114b
  refine ge1_i ?_ ?_
  refine ge1_l (fun _ => ?_)
  refine ge1_g ?_
  refine ge1_l (fun _ => ?_)
  refine ge1_b (ge1_220 (by assumption)) (fun _ _ _ => ?_)
  refine ge1_l (fun _ => ?_)
  exact hr114 _ _ _ _ _ (by assumption)
  refine ge1_b (ge1_31 (by assumption)) (fun _ _ _ => ?_)
  exact ge1_r (by assumption)
theorem ge1_269_114 {n : Nat} {g : Nat} {F : wq_F} {x0 : Nat} {x1 : Nat} {x2 : Nat} {x3 : Nat} (h : gm v F) : ge1 v (dk_269_114 n g F x0 x1 x2 x3) := by
  induction g generalizing F x0 x1 x2 x3 with
  | zero => exact ge1_n
  | succ g ih =>
    exact ge1_269_114b (fun K x0 x1 x2 x3 h => by first | exact ih h | exact ih K x0 x1 x2 x3 h) h
theorem ge1_269 {n : Nat} {F : wq_F} {a0 : Nat} {a1 : Nat} {a2 : Nat} (h : gm v F) : ge1 v (dk_269 n F a0 a1 a2) := by
  unfold dk_269
  refine ge1_b (ge1_214 (by assumption)) (fun _ _ _ => ?_)
  refine ge1_i ?_ ?_
  exact ge1_r (by assumption)
  refine ge1_b (ge1_30 (by assumption)) (fun _ _ _ => ?_)
  refine ge1_b (ge1_30 (by assumption)) (fun _ _ _ => ?_)
  refine ge1_b (ge1_30 (by assumption)) (fun _ _ _ => ?_)
  refine ge1_b (ge1_30 (by assumption)) (fun _ _ _ => ?_)
  refine ge1_b (ge1_227 (by assumption)) (fun _ _ _ => ?_)
  refine ge1_l (fun _ => ?_)
  refine ge1_l (fun _ => ?_)
  refine ge1_b (ge1_30 (by assumption)) (fun _ _ _ => ?_)
  refine ge1_g ?_
  refine ge1_u (by unfold gmx; omega) (by assumption) (fun _ _ => ?_)
  refine ge1_b (ge1_31 (by assumption)) (fun _ _ _ => ?_)
  exact ge1_269_114 (by assumption)
theorem ge1_270 {n : Nat} {F : wq_F} {a0 : Nat} {a1 : Nat} {a2 : Nat} (h : gm v F) : ge1 v (dk_270 n F a0 a1 a2) := by
  unfold dk_270
  refine ge1_b (ge1_214 (by assumption)) (fun _ _ _ => ?_)
  refine ge1_i ?_ ?_
  exact ge1_r (by assumption)
  refine ge1_b (ge1_225 (by assumption)) (fun _ _ _ => ?_)
  refine ge1_b (ge1_30 (by assumption)) (fun _ _ _ => ?_)
  refine ge1_b (ge1_228 (by assumption)) (fun _ _ _ => ?_)
  refine ge1_b (ge1_30 (by assumption)) (fun _ _ _ => ?_)
  exact ge1_r (by assumption)
theorem ge1_271 {F : wq_F} {a0 : Nat} (h : gm v F) : ge1 v (dk_271 F a0) := by
  unfold dk_271
  refine ge1_b (ge1_30 (by assumption)) (fun _ _ _ => ?_)
  refine ge1_b (ge1_30 (by assumption)) (fun _ _ _ => ?_)
  refine ge1_b (ge1_36 (by assumption)) (fun _ _ _ => ?_)
  refine ge1_i ?_ ?_
  exact ge1_r (by assumption)
  refine ge1_b (ge1_212 (by assumption)) (fun _ _ _ => ?_)
  refine ge1_i ?_ ?_
  exact ge1_r (by assumption)
  exact ge1_r (by assumption)
theorem ge1_272 {F : wq_F} {a0 : Nat} {a1 : Nat} {a2 : Nat} (h : gm v F) : ge1 v (dk_272 F a0 a1 a2) := by
  unfold dk_272
  refine ge1_i ?_ ?_
  refine ge1_b (ge1_30 (by assumption)) (fun _ _ _ => ?_)
  refine ge1_b (ge1_30 (by assumption)) (fun _ _ _ => ?_)
  exact ge1_r (by assumption)
  refine ge1_b (ge1_30 (by assumption)) (fun _ _ _ => ?_)
  refine ge1_b (ge1_30 (by assumption)) (fun _ _ _ => ?_)
  exact ge1_r (by assumption)
theorem ge1_37 {n : Nat} {F : wq_F} {a0 : Nat} {a1 : Nat} {a2 : Nat} {a3 : Nat} (h : gm v F) : ge1 v (dk_37 n F a0 a1 a2 a3) := by
  unfold dk_37
  refine ge1_i ?_ ?_
  refine ge1_b (ge1_256 (by assumption)) (fun _ _ _ => ?_)
  exact ge1_r (by assumption)
  refine ge1_i ?_ ?_
  refine ge1_b (ge1_257 (by assumption)) (fun _ _ _ => ?_)
  exact ge1_r (by assumption)
  refine ge1_i ?_ ?_
  refine ge1_b (ge1_258 (by assumption)) (fun _ _ _ => ?_)
  exact ge1_r (by assumption)
  refine ge1_i ?_ ?_
  refine ge1_b (ge1_259 (by assumption)) (fun _ _ _ => ?_)
  exact ge1_r (by assumption)
  refine ge1_i ?_ ?_
  refine ge1_b (ge1_260 (by assumption)) (fun _ _ _ => ?_)
  exact ge1_r (by assumption)
  refine ge1_i ?_ ?_
  refine ge1_b (ge1_261 (by assumption)) (fun _ _ _ => ?_)
  exact ge1_r (by assumption)
  refine ge1_i ?_ ?_
  refine ge1_b (ge1_262 (by assumption)) (fun _ _ _ => ?_)
  exact ge1_r (by assumption)
  refine ge1_i ?_ ?_
  refine ge1_b (ge1_263 (by assumption)) (fun _ _ _ => ?_)
  exact ge1_r (by assumption)
  refine ge1_i ?_ ?_
  refine ge1_b (ge1_264 (by assumption)) (fun _ _ _ => ?_)
  exact ge1_r (by assumption)
  refine ge1_i ?_ ?_
  refine ge1_b (ge1_214 (by assumption)) (fun _ _ _ => ?_)
  exact ge1_r (by assumption)
  refine ge1_i ?_ ?_
  refine ge1_b (ge1_265 (by assumption)) (fun _ _ _ => ?_)
  exact ge1_r (by assumption)
  refine ge1_i ?_ ?_
  refine ge1_b (ge1_266 (by assumption)) (fun _ _ _ => ?_)
  exact ge1_r (by assumption)
  refine ge1_i ?_ ?_
  refine ge1_b (ge1_267 (by assumption)) (fun _ _ _ => ?_)
  exact ge1_r (by assumption)
  refine ge1_i ?_ ?_
  refine ge1_b (ge1_268 (by assumption)) (fun _ _ _ => ?_)
  exact ge1_r (by assumption)
  refine ge1_i ?_ ?_
  refine ge1_b (ge1_269 (by assumption)) (fun _ _ _ => ?_)
  exact ge1_r (by assumption)
  refine ge1_i ?_ ?_
  refine ge1_b (ge1_270 (by assumption)) (fun _ _ _ => ?_)
  exact ge1_r (by assumption)
  refine ge1_i ?_ ?_
  refine ge1_b (ge1_271 (by assumption)) (fun _ _ _ => ?_)
  exact ge1_r (by assumption)
  refine ge1_i ?_ ?_
  refine ge1_g ?_
  refine ge1_i ?_ ?_
  exact ge1_r (by assumption)
  refine ge1_b (ge1_211 (by assumption)) (fun _ _ _ => ?_)
  refine ge1_i ?_ ?_
  exact ge1_r (by assumption)
  exact ge1_r (by assumption)
  refine ge1_i ?_ ?_
  refine ge1_b (ge1_231 (by assumption)) (fun _ _ _ => ?_)
  exact ge1_r (by assumption)
  refine ge1_i ?_ ?_
  refine ge1_b (ge1_30 (by assumption)) (fun _ _ _ => ?_)
  exact ge1_r (by assumption)
  refine ge1_i ?_ ?_
  refine ge1_b (ge1_272 (by assumption)) (fun _ _ _ => ?_)
  exact ge1_r (by assumption)
  refine ge1_g ?_
  refine ge1_i ?_ ?_
  exact ge1_r (by assumption)
  refine ge1_b (ge1_211 (by assumption)) (fun _ _ _ => ?_)
  refine ge1_i ?_ ?_
  exact ge1_r (by assumption)
  exact ge1_r (by assumption)
theorem ge1_32 {n : Nat} {F : wq_F} {a0 : Nat} {a1 : Nat} {a2 : Nat} {a3 : Nat} (h : gm v F) : ge1 v (dk_32 n F a0 a1 a2 a3) := by
  unfold dk_32
  refine ge1_i ?_ ?_
  refine ge1_b (ge1_33 (by assumption)) (fun _ _ _ => ?_)
  exact ge1_r (by assumption)
  refine ge1_i ?_ ?_
  refine ge1_l (fun _ => ?_)
  refine ge1_u (by unfold gmx; omega) (by assumption) (fun _ _ => ?_)
  exact ge1_r (by assumption)
  refine ge1_i ?_ ?_
  refine ge1_b (ge1_225 (by assumption)) (fun _ _ _ => ?_)
  exact ge1_r (by assumption)
  refine ge1_i ?_ ?_
  refine ge1_b (ge1_236 (by assumption)) (fun _ _ _ => ?_)
  exact ge1_r (by assumption)
  refine ge1_i ?_ ?_
  refine ge1_b (ge1_239 (by assumption)) (fun _ _ _ => ?_)
  exact ge1_r (by assumption)
  refine ge1_i ?_ ?_
  refine ge1_b (ge1_242 (by assumption)) (fun _ _ _ => ?_)
  exact ge1_r (by assumption)
  refine ge1_i ?_ ?_
  refine ge1_b (ge1_241 (by assumption)) (fun _ _ _ => ?_)
  exact ge1_r (by assumption)
  refine ge1_i ?_ ?_
  refine ge1_b (ge1_243 (by assumption)) (fun _ _ _ => ?_)
  exact ge1_r (by assumption)
  refine ge1_i ?_ ?_
  refine ge1_b (ge1_245 (by assumption)) (fun _ _ _ => ?_)
  exact ge1_r (by assumption)
  refine ge1_i ?_ ?_
  refine ge1_b (ge1_273 (by assumption)) (fun _ _ _ => ?_)
  exact ge1_r (by assumption)
  refine ge1_i ?_ ?_
  refine ge1_b (ge1_274 (by assumption)) (fun _ _ _ => ?_)
  exact ge1_r (by assumption)
  refine ge1_i ?_ ?_
  refine ge1_b (ge1_275 (by assumption)) (fun _ _ _ => ?_)
  exact ge1_r (by assumption)
  refine ge1_i ?_ ?_
  refine ge1_b (ge1_213 (by assumption)) (fun _ _ _ => ?_)
  exact ge1_r (by assumption)
  refine ge1_i ?_ ?_
  refine ge1_b (ge1_276 (by assumption)) (fun _ _ _ => ?_)
  exact ge1_r (by assumption)
  refine ge1_i ?_ ?_
  refine ge1_b (ge1_247 (by assumption)) (fun _ _ _ => ?_)
  exact ge1_r (by assumption)
  refine ge1_i ?_ ?_
  refine ge1_b (ge1_249 (by assumption)) (fun _ _ _ => ?_)
  exact ge1_r (by assumption)
  refine ge1_i ?_ ?_
  refine ge1_b (ge1_31 (by assumption)) (fun _ _ _ => ?_)
  refine ge1_b (ge1_31 (by assumption)) (fun _ _ _ => ?_)
  refine ge1_b (ge1_213 (by assumption)) (fun _ _ _ => ?_)
  refine ge1_i ?_ ?_
  exact ge1_r (by assumption)
  refine ge1_b (ge1_213 (by assumption)) (fun _ _ _ => ?_)
  refine ge1_i ?_ ?_
  exact ge1_r (by assumption)
  exact ge1_r (by assumption)
  refine ge1_i ?_ ?_
  refine ge1_b (ge1_251 (by assumption)) (fun _ _ _ => ?_)
  exact ge1_r (by assumption)
  refine ge1_i ?_ ?_
  refine ge1_b (ge1_252 (by assumption)) (fun _ _ _ => ?_)
  exact ge1_r (by assumption)
  refine ge1_i ?_ ?_
  refine ge1_b (ge1_253 (by assumption)) (fun _ _ _ => ?_)
  exact ge1_r (by assumption)
  refine ge1_i ?_ ?_
  refine ge1_b (ge1_255 (by assumption)) (fun _ _ _ => ?_)
  exact ge1_r (by assumption)
  refine ge1_b (ge1_37 (by assumption)) (fun _ _ _ => ?_)
  exact ge1_r (by assumption)
theorem ge1_29_134b {n : Nat} {r134 : wq_F → Nat → Option (Nat × wq_F)} {F : wq_F} {v2 : Nat} (hr134 : ∀ K x0, gm v K → ge1 v (r134 K x0)) (h : gm v F) : ge1 v (dk_29_134b n r134 F v2) := by
  unfold dk_29_134b
  refine ge1_i ?_ ?_
  refine ge1_i ?_ ?_
  exact ge1_29_214 (by assumption)
  refine ge1_l (fun _ => ?_)
  refine ge1_u (by unfold gmx; omega) (by assumption) (fun _ _ => ?_)
  refine ge1_g ?_
  refine ge1_g ?_
  refine ge1_g ?_
  refine ge1_g ?_
  refine ge1_b (ge1_32 (by assumption)) (fun _ _ _ => ?_)
  refine ge1_i ?_ ?_
  exact hr134 _ _ (by assumption)
  refine ge1_i ?_ ?_
  exact hr134 _ _ (by assumption)
  exact hr134 _ _ (by assumption)
  exact ge1_29_214 (by assumption)
theorem ge1_29_134 {n : Nat} {g : Nat} {F : wq_F} {x0 : Nat} (h : gm v F) : ge1 v (dk_29_134 n g F x0) := by
  induction g generalizing F x0 with
  | zero => exact ge1_n
  | succ g ih =>
    exact ge1_29_134b (fun K x0 h => by first | exact ih h | exact ih K x0 h) h
end
