/-! ===== a30b: a sign = or , behind a statement that is a call: the reference refuses it at once, the class at the next token that must stand (wip/whole2/lawa30b.py) ===== -/
theorem wq_up_cm {F : wq_F} {c x v d y u : Nat} (h : ¬ (d = c ∧ y = x)) : wq_up (wq_up F c x v) d y u = wq_up (wq_up F d y u) c x v := funext fun e => funext fun j => by
  by_cases z1 : e = d ∧ j = y
  · rw [z1.1, z1.2, wq_up_same, wq_up_ne h, wq_up_same]
  · rw [wq_up_ne z1]
    by_cases z2 : e = c ∧ j = x
    · rw [z2.1, z2.2, wq_up_same, wq_up_same]
    · rw [wq_up_ne z2, wq_up_ne z2, wq_up_ne z1]
theorem px_r_up {G : wq_F} {c x v : Nat} (h : ¬ (c = 56 ∨ c = 57)) : px_r (wq_up G c x v) 2 = wq_up (px_r G 2) c x v := by
  unfold px_r
  rw [wq_up_cell (F := G) (k := c) (i := x) (v := v) (k' := 57) (i' := 5) (by omega), wq_up_cell (F := G) (k := c) (i := x) (v := v) (k' := 57) (i' := 6) (by omega), wq_up_cm (c := c) (x := x) (d := 56) (y := 4) (by omega), wq_up_cm (c := c) (x := x) (d := 56) (y := 5) (by omega), wq_up_cm (c := c) (x := x) (d := 56) (y := 6) (by omega), wq_up_cm (c := c) (x := x) (d := 57) (y := 4) (by omega)]
theorem px_r_c {G : wq_F} {c j : Nat} (h : ¬ (c = 56 ∨ c = 57)) : px_r G 2 c j = G c j := by
  unfold px_r
  rw [wq_up_cell (by omega), wq_up_cell (by omega), wq_up_cell (by omega), wq_up_cell (by omega)]
theorem px_r_em {G : wq_F} {op a b ln : Nat} : px_r (pg_em G op a b ln) 2 = pg_em (px_r G 2) op a b ln := by
  unfold pg_em
  rw [px_r_c (c := 11) (by omega), px_r_up (by omega), px_r_up (by omega), px_r_up (by omega), px_r_up (by omega), px_r_up (by omega)]
section
variable {nn : Nat} {T : Nat → Nat} {n M O : Nat} {G0 : wq_F} {c0 : List (List Nat)} {i t w s nw ns np N : Nat} {off voff ph : Nat → Nat} {cx : Nat → List Nat} {c cb : List Nat} {W : List (Nat × Nat × Nat × Nat)} {L : List (Nat × Nat)} {P Q : List (Nat × Nat × Nat)} {ls cs : List (List Nat)} {F G : wq_F}

/-- the class at such a sign -/
def sy (T : Nat → Nat) (n : Nat) (G0 : wq_F) (c0 : List (List Nat)) (O p N B : Nat) (G : wq_F) : Prop := (G 57 4 = 49 ∨ G 57 4 = 59) ∧ G 56 4 = 0 ∧ sx T n G0 c0 O 2 p N B (px_r G 2)
def sxy (T : Nat → Nat) (n : Nat) (G0 : wq_F) (c0 : List (List Nat)) (O e p N B : Nat) (G : wq_F) : Prop := sx T n G0 c0 O e p N B G ∨ (e = 2 ∧ sy T n G0 c0 O p N B G)
theorem sy_ne {x p B : Nat} (h : sy T n G0 c0 O p N B G) (hx : ¬ (x = 49 ∨ x = 59)) : ¬ G 57 4 = x := fun z => hx (by rw [← z]; exact h.1)
theorem sy_le {p B B' : Nat} (h : sy T n G0 c0 O p N B G) (hB : B ≤ B') : sy T n G0 c0 O p N B' G := ⟨h.1, h.2.1, sx_le h.2.2 hB⟩
theorem sxy_le {e p B B' : Nat} (h : sxy T n G0 c0 O e p N B G) (hB : B ≤ B') : sxy T n G0 c0 O e p N B' G := h.elim (fun h => Or.inl (sx_le h hB)) (fun h => Or.inr ⟨h.1, sy_le h.2 hB⟩)
theorem sy_109 {p B : Nat} (h : sy T n G0 c0 O p N B G) : wok (dk_109 G 2) (fun _ K => sx T n G0 c0 O 2 p N B K) := by
  have a5 : wq_up G 56 4 2 57 5 = G 57 5 := wq_up_cell (by decide)
  have a6 : wq_up (wq_up G 56 4 2) 56 5 (G 57 5) 57 6 = G 57 6 := by rw [wq_up_cell (by decide), wq_up_cell (by decide)]
  have a4 : wq_up G 56 4 2 57 4 = G 57 4 := wq_up_cell (by decide)
  have e : dk_109_60 (wq_up G 56 4 2) = some (0, px_r G 2) := by
    unfold dk_109_60
    rw [od_upS, a5, od_upS, a6]
    rfl
  unfold dk_109
  rw [if_pos h.2.1, od_upS, if_pos rfl, a4, if_neg (sy_ne h (by decide))]
  unfold dk_109_37
  rw [if_neg (by decide)]
  exact wok_e e h.2.2
theorem sy_110 {x p B : Nat} (h : sy T n G0 c0 O p N B G) (hx : ¬ (x = 49 ∨ x = 59)) : wok (dk_110 nn G x) (fun _ K => sx T n G0 c0 O 2 p N B K) := by
  unfold dk_110
  exact wok_f (sy_ne h hx) (wok_b (sy_109 h) fun r K h => wok_r h)
theorem sxy_110 {x e p B : Nat} (h : sxy T n G0 c0 O e p N B G) (h5 : ¬ x = 5) (hx : ¬ (x = 49 ∨ x = 59)) : wok (dk_110 nn G x) (fun _ K => sx T n G0 c0 O e p N B K) := by
  rcases h with h | ⟨rfl, h⟩
  · exact sx_110 h h5
  · exact sy_110 h hx
theorem sy_up {p B B' c j v : Nat} (h : sy T n G0 c0 O p N B G) (hc : ¬ (c = 56 ∨ c = 57)) (hs : sx T n G0 c0 O 2 p N B' (wq_up (px_r G 2) c j v)) : sy T n G0 c0 O p N B' (wq_up G c j v) := ⟨by rw [wq_up_cell (by omega)]; exact h.1, by rw [wq_up_cell (by omega)]; exact h.2.1, by rw [px_r_up hc]; exact hs⟩
theorem sy_em {p B op a b ln : Nat} (h : sy T n G0 c0 O p N B G) (hb : okj b) : sy T n G0 c0 O p N (B + 1) (pg_em G op a b ln) := ⟨by rw [pg_em_ne (by omega) (by omega)]; exact h.1, by rw [pg_em_ne (by omega) (by omega)]; exact h.2.1, by rw [px_r_em]; exact sx_em h.2.2 hb⟩
theorem sy_lv {p B : Nat} (h : sy T n G0 c0 O p N B G) : G 59 8 = N - 1 ∧ N - 1 < 24 ∧ 1 ≤ N ∧ G 11 4 ≤ B := by
  have z := h.2.2.2.2.1
  rw [px_r_c (c := 11) (by omega), px_r_c (c := 59) (by omega)] at z
  omega
theorem sxy_168 {a e p B : Nat} (h : sxy T n G0 c0 O e p N B G) (ha : a ≤ 1200) : wok (dk_168 G a) (fun r K => sxy T n G0 c0 O e p N B K) := by
  rcases h with h | ⟨he, h⟩
  · exact wok_m (sx_168 h ha) fun r K h => Or.inl h
  · unfold dk_168
    exact wok_u (wok_r (Or.inr ⟨he, sy_up h (by decide) (sx_ac h.2.2 ha)⟩))
theorem sxy_84 {e p B : Nat} (h : sxy T n G0 c0 O e p N B G) : wok (dk_84 G) (fun r K => sxy T n G0 c0 O e p N B K) := by
  rcases h with h | ⟨he, h⟩
  · exact wok_m (sx_84 h) fun r K h => Or.inl h
  · have z := sy_lv h
    exact wok_e (dkS_84 z.1 z.2.1) (Or.inr ⟨he, h⟩)
theorem sxy_113 {a e p B : Nat} (h : sxy T n G0 c0 O e p N B G) (hB : B < 10000) : wok (dk_113 G a) (fun r K => sxy T n G0 c0 O e p N (B + 1) K) := by
  rcases h with h | ⟨he, h⟩
  · exact wok_m (sx_113 h hB) fun r K h => Or.inl h
  · have z := sy_lv h
    refine wok_e (dkS_113 z.1 z.2.1 (by omega)) (Or.inr ⟨he, ?_⟩)
    have y := sy_em (op := 27) (a := a) (b := 0) (ln := 0) h (okj_p (by decide))
    exact sy_up y (by decide) (sx_up y.2.2 (by omega))
theorem sxy_78 {op a b ln e p B : Nat} (h : sxy T n G0 c0 O e p N B G) (hB : B < 10000) (hb : okj b) : wok (dk_78 G op a b ln) (fun r K => sxy T n G0 c0 O e p N (B + 1) K) := by
  rcases h with h | ⟨he, h⟩
  · exact wok_m (sx_78 h hB hb) fun r K h => Or.inl h.2
  · have z := sy_lv h
    exact wok_e (dkS_78 (by omega)) (Or.inr ⟨he, sy_em h hb⟩)
theorem sxy_b4 {e p B v4 : Nat} (h : sxy T n G0 c0 O e p (N + 1) B G) (hN : 1 ≤ N) (hB : B + 1 < 10000) (hj : v4 < 10000) (hn : 10000 < nn) : wok ((dk_84 G).bind fun y37 => (dk_78 y37.2 20 y37.1 0 0).bind fun y41 => (dk_110 nn y41.2 15).bind fun y45 => (dk_160 y45.2).bind fun y49 => (dk_159 nn y49.2 v4).bind fun y53 => (dk_163 y53.2 1).bind fun y57 => some (0, y57.2)) (fun _ K => sx T n G0 c0 O e p N (B + 1) K) := by
  refine wok_b (sxy_84 h) fun r K h => ?_
  refine wok_b (sxy_78 h (by omega) (okj_p (by decide))) fun r K h => ?_
  refine wok_b (sxy_110 h (by decide) (by decide)) fun r K h => ?_
  refine wok_b (sx_160 h hN) fun r K h => ?_
  refine wok_b (sx_159 h hB (okj_p hj) hn) fun r K h => ?_
  exact wok_b (sx_163 h) fun r K h => wok_r h
end
