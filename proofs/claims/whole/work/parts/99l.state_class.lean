/-! ===== 99l: the state of the class's parser; the stopped class (wip/whole2/law99l.py) ===== -/
theorem px_at_x {T : Nat → Nat} {n O i : Nat} {G0 G H : wq_F} {c0 cs : List (List Nat)} (h : px_at T n G0 c0 O i G cs) (hx : ∀ c j, ((1 ≤ c ∧ c ≤ 9 ∧ ¬ c = 2) ∨ c = 57 ∨ (c = 2 ∧ (j = 8 ∨ j = 9 ∨ j = 11)) ∨ (c = 56 ∧ j = 4)) → H c j = G c j) : px_at T n G0 c0 O i H cs := by
  obtain ⟨h0, ⟨h1, h2, h3, h4⟩, h5, h6, h7, ⟨h8, h9, h10, h11, h12, h13⟩, ⟨g1, g2, g3, g4, g5, g6⟩⟩ := h
  have e : ∀ c, 3 ≤ c → c ≤ 9 → H c = G c := fun c a b => funext fun j => hx c j (by omega)
  have f : ∀ j, H 57 j = G 57 j := fun j => hx 57 j (by omega)
  have e9 : ∀ j, H 9 j = G 9 j := fun j => hx 9 j (by omega)
  refine ⟨(hx 56 4 (by decide)).trans h0, ⟨(f 4).trans h1, (f 5).trans h2, (f 6).trans h3, (f 7).trans h4⟩, fun q => (f 3).trans (h5 q), fun q => (f 8).trans (h6 q), fun q => ?_, ⟨cs_ok_up h8 ⟨hx 2 8 (by decide), hx 2 9 (by decide)⟩ (fun c a b => e c a (by omega)), h9, h10, h11, (f 2).trans h12, fun j hj => (hx 1 j (by omega)).trans (h13 j hj)⟩, ⟨g1, g2, fun s a b => ⟨(g3 s a b).1, ?_⟩, fun s hs => ?_, fun s hs => ?_, (hx 2 11 (by decide)).trans g6⟩⟩
  · obtain ⟨s, a, b⟩ := h7 q
    exact ⟨s, (f 8).trans a, b⟩
  · rw [e9 s]
    exact (g3 s a b).2
  · rw [e9 s]
    exact g4 s hs
  · rw [e9 s]
    exact g5 s hs
/-- a place of a jump, or none -/
def okj (v : Nat) : Prop := v < 10000 ∨ (2147483648 ≤ v ∧ v < 4294967296)
/-- the places noted: the latest first -/
def cy_pl (G : wq_F) : List (Nat × Nat × Nat) → Prop
  | [] => True
  | e :: P => (G 58 (3 * P.length) = e.1 ∧ G 58 (3 * P.length + 1) = e.2.1 ∧ G 58 (3 * P.length + 2) = e.2.2) ∧ cy_pl G P
theorem cy_pl_x {F H : wq_F} : ∀ {P : List (Nat × Nat × Nat)}, cy_pl F P → (∀ j, j < 3 * P.length → H 58 j = F 58 j) → cy_pl H P
  | [], _, _ => trivial
  | e :: P, h, g => by
    have hl : (e :: P).length = P.length + 1 := rfl
    exact ⟨⟨(g _ (by omega)).trans h.1.1, (g _ (by omega)).trans h.1.2.1, (g _ (by omega)).trans h.1.2.2⟩, cy_pl_x h.2 (fun j d => g j (by omega))⟩
theorem cy_pl_drop {F : wq_F} : ∀ {A L : List (Nat × Nat × Nat)}, cy_pl F (A ++ L) → cy_pl F L
  | [], _, h => h
  | _ :: A, _, h => cy_pl_drop (A := A) h.2
/-- token i; s: instructions, ns wholes, nf functions; N levels; its places -/
def cy (T : Nat → Nat) (n : Nat) (G0 : wq_F) (c0 : List (List Nat)) (O i : Nat) (cs : List (List Nat)) (s ns nf N : Nat) (P : List (Nat × Nat × Nat)) (G : wq_F) : Prop :=
  px_at T n G0 c0 O i G cs ∧ (G 11 4 = s ∧ G 11 6 = ns ∧ G 11 14 = nf ∧ G 59 8 + 1 = N) ∧ (G 56 11 = 3 * P.length ∧ cy_pl G P) ∧ (G 56 12 < c0.length ∧ c0.getD (G 56 12) [] = sf_b) ∧ ((∀ j, j < 10000 → okj (G 14 j)) ∧ ∀ l, l < N → okj (G 65 l))
/-- what it doesn't speak of -/
def cy_n (c j : Nat) : Prop := (12 ≤ c ∧ c ≤ 23 ∧ ¬ c = 14) ∨ (60 ≤ c ∧ c ≤ 66 ∧ ¬ c = 65) ∨ (c = 59 ∧ ¬ j = 8) ∨ (c = 56 ∧ (j = 7 ∨ j = 8 ∨ j = 9))
theorem cy_mk {T : Nat → Nat} {n O i s ns nf N : Nat} {G0 G H : wq_F} {c0 cs : List (List Nat)} {P : List (Nat × Nat × Nat)} (h : cy T n G0 c0 O i cs s ns nf N P G) (hx : ∀ c j, ¬ cy_n c j → ¬ (c = 11 ∧ (j = 4 ∨ j = 6 ∨ j = 14)) → ¬ (c = 14 ∨ c = 65) → H c j = G c j) (h14 : ∀ j, j < 10000 → okj (H 14 j)) (h65 : ∀ l, l < N → okj (H 65 l)) : cy T n G0 c0 O i cs (H 11 4) (H 11 6) (H 11 14) N P H := by
  obtain ⟨h1, ⟨h2, h2b, h2c, h2d⟩, ⟨h3, h4⟩, ⟨h5, h6⟩, h7⟩ := h
  refine ⟨px_at_x h1 (fun c j a => hx c j (by unfold cy_n; omega) (by omega) (by omega)), ⟨rfl, rfl, rfl, ?_⟩, ⟨?_, cy_pl_x h4 (fun j _ => hx 58 j (by unfold cy_n; omega) (by omega) (by omega))⟩, ⟨?_, ?_⟩, h14, h65⟩
  · rw [hx 59 8 (by unfold cy_n; omega) (by omega) (by omega)]
    exact h2d
  · rw [hx 56 11 (by unfold cy_n; omega) (by omega) (by omega)]
    exact h3
  · rw [hx 56 12 (by unfold cy_n; omega) (by omega) (by omega)]
    exact h5
  · rw [hx 56 12 (by unfold cy_n; omega) (by omega) (by omega)]
    exact h6
theorem cy_x {T : Nat → Nat} {n O i s ns nf N : Nat} {G0 G H : wq_F} {c0 cs : List (List Nat)} {P : List (Nat × Nat × Nat)} (h : cy T n G0 c0 O i cs s ns nf N P G) (hx : ∀ c j, ¬ cy_n c j → ¬ (c = 14 ∨ c = 65) → H c j = G c j) (h14 : ∀ j, j < 10000 → okj (H 14 j)) (h65 : ∀ l, l < N → okj (H 65 l)) : cy T n G0 c0 O i cs s ns nf N P H := by
  have g := cy_mk h (H := H) (fun c j a _ b => hx c j a b) h14 h65
  have e : ∀ j, H 11 j = G 11 j := fun j => hx 11 j (by unfold cy_n; omega) (by omega)
  rw [e 4, e 6, e 14, h.2.1.1, h.2.1.2.1, h.2.1.2.2.1] at g
  exact g
theorem cy_up {v c j : Nat} {T : Nat → Nat} {n O i s ns nf N : Nat} {G0 G : wq_F} {c0 cs : List (List Nat)} {P : List (Nat × Nat × Nat)} (h : cy T n G0 c0 O i cs s ns nf N P G) (hn : cy_n c j) : cy T n G0 c0 O i cs s ns nf N P (wq_up G c j v) := by
  have hn2 : ¬ (c = 14 ∨ c = 65) := by
    unfold cy_n at hn
    omega
  exact cy_x h (fun d k hd _ => wq_up_ne (fun z => hd (by rw [z.1, z.2]; exact hn))) (fun k hk => by rw [wq_up_cell (by omega)]; exact h.2.2.2.2.1 k hk) (fun k hk => by rw [wq_up_cell (by omega)]; exact h.2.2.2.2.2 k hk)
/-- the chain of the breaks set -/
theorem cy_br {v l : Nat} {T : Nat → Nat} {n O i s ns nf N : Nat} {G0 G : wq_F} {c0 cs : List (List Nat)} {P : List (Nat × Nat × Nat)} (h : cy T n G0 c0 O i cs s ns nf N P G) (hv : okj v) : cy T n G0 c0 O i cs s ns nf N P (wq_up G 65 l v) := by
  refine cy_x h (fun d k hd h2 => wq_up_ne (fun z => h2 (Or.inr z.1))) (fun k hk => by rw [wq_up_cell (by omega)]; exact h.2.2.2.2.1 k hk) (fun k hk => ?_)
  by_cases q : k = l
  · rw [q, wq_up_same]
    exact hv
  · rw [wq_up_at q]
    exact h.2.2.2.2.2 k hk
/-- jumps led here; the latest instruction's want -/
theorem cy_jl {v : Nat} {J : List Nat} {T : Nat → Nat} {n O i s ns nf N : Nat} {G0 G : wq_F} {c0 cs : List (List Nat)} {P : List (Nat × Nat × Nat)} (h : cy T n G0 c0 O i cs s ns nf N P G) (hv : okj v) : cy T n G0 c0 O i cs s ns nf N P (jl_up G 14 J v) := by
  refine cy_x h (fun d k hd h2 => jl_ne (fun z => h2 (Or.inl z.1))) (fun k hk => ?_) (fun k hk => by rw [jl_ne (by omega)]; exact h.2.2.2.2.2 k hk)
  by_cases q : k ∈ J
  · rw [jl_at q]
    exact hv
  · rw [jl_ne (fun z => q z.2)]
    exact h.2.2.2.2.1 k hk
theorem cy_wt {v j : Nat} {T : Nat → Nat} {n O i s ns nf N : Nat} {G0 G : wq_F} {c0 cs : List (List Nat)} {P : List (Nat × Nat × Nat)} (h : cy T n G0 c0 O i cs s ns nf N P G) (hv : okj v) : cy T n G0 c0 O i cs s ns nf N P (wq_up G 14 j v) := by
  refine cy_x h (fun d k hd h2 => wq_up_ne (fun z => h2 (Or.inl z.1))) (fun k hk => ?_) (fun k hk => by rw [wq_up_cell (by omega)]; exact h.2.2.2.2.2 k hk)
  by_cases q : k = j
  · rw [q, wq_up_same]
    exact hv
  · rw [wq_up_at q]
    exact h.2.2.2.2.1 k hk
theorem cy_em {op a b ln : Nat} {T : Nat → Nat} {n O i s ns nf N : Nat} {G0 G : wq_F} {c0 cs : List (List Nat)} {P : List (Nat × Nat × Nat)} (h : cy T n G0 c0 O i cs s ns nf N P G) (hb : okj b) : cy T n G0 c0 O i cs (s + 1) ns nf N P (pg_em G op a b ln) := by
  have g := cy_mk h (H := pg_em G op a b ln) (fun c j h1 h2 h3 => pg_em_ne (fun z => h1 (by unfold cy_n; omega)) (fun z => h2 (by omega))) (fun j hj => by
    by_cases q : j = G 11 4
    · rw [q, pg_em_at.2.2.1]
      exact hb
    · rw [pg_em_ne (by omega) (by omega)]
      exact h.2.2.2.2.1 j hj) (fun l hl => by rw [pg_em_59 (by decide)]; exact h.2.2.2.2.2 l hl)
  rw [pg_em_at.2.2.2.2, pg_em_ne (show ¬ (12 ≤ 11 ∧ 11 ≤ 15 ∧ 6 = G 11 4) by omega) (by decide), pg_em_ne (show ¬ (12 ≤ 11 ∧ 11 ≤ 15 ∧ 14 = G 11 4) by omega) (by decide), h.2.1.1, h.2.1.2.1, h.2.1.2.2.1] at g
  exact g
theorem cy_nx {ms : List (List Nat)} {k : Nat} {T : Nat → Nat} {n O i s ns nf N : Nat} {G0 G H : wq_F} {c0 cs : List (List Nat)} {P : List (Nat × Nat × Nat)} (h : cy T n G0 c0 O i cs s ns nf N P G) (hp : px_at T n G0 c0 O k H ms) (hf : px_fr G H) : cy T n G0 c0 O k ms s ns nf N P H := by
  obtain ⟨h1, ⟨h2, h2b, h2c, h2d⟩, ⟨h3, h4⟩, ⟨h5, h6⟩, h7, h8⟩ := h
  have e : ∀ c j, 10 < c → ¬ c = 57 → H c j = G c j := fun c j a b => hf c j (by omega) (by omega) (by omega)
  refine ⟨hp, ⟨(e 11 4 (by decide) (by decide)).trans h2, (e 11 6 (by decide) (by decide)).trans h2b, (e 11 14 (by decide) (by decide)).trans h2c, ?_⟩, ⟨(e 56 11 (by decide) (by decide)).trans h3, cy_pl_x h4 (fun j _ => e 58 j (by decide) (by decide))⟩, ⟨?_, ?_⟩, fun j hj => ?_, fun l hl => ?_⟩
  · rw [e 59 8 (by decide) (by decide)]
    exact h2d
  · rw [e 56 12 (by decide) (by decide)]
    exact h5
  · rw [e 56 12 (by decide) (by decide)]
    exact h6
  · rw [e 14 j (by decide) (by decide)]
    exact h7 j hj
  · rw [e 65 l (by decide) (by decide)]
    exact h8 l hl
/-- a place more; the places cut -/
theorem cy_pp {a b d : Nat} {T : Nat → Nat} {n O i s ns nf N : Nat} {G0 G : wq_F} {c0 cs : List (List Nat)} {P : List (Nat × Nat × Nat)} (h : cy T n G0 c0 O i cs s ns nf N P G) : cy T n G0 c0 O i cs s ns nf N ((a, b, d) :: P) (wq_up (wq_up (wq_up (wq_up G 58 (3 * P.length) a) 58 (3 * P.length + 1) b) 58 (3 * P.length + 2) d) 56 11 (3 * P.length + 3)) := by
  obtain ⟨h1, ⟨h2, h2b, h2c, h2d⟩, ⟨h3, h4⟩, ⟨h5, h6⟩, h7, h8⟩ := h
  have e : ∀ c j, ¬ (c = 56 ∧ j = 11) → ¬ (c = 58 ∧ 3 * P.length ≤ j) → wq_up (wq_up (wq_up (wq_up G 58 (3 * P.length) a) 58 (3 * P.length + 1) b) 58 (3 * P.length + 2) d) 56 11 (3 * P.length + 3) c j = G c j := fun c j a b => by rw [wq_up_ne a, wq_up_ne (by omega), wq_up_ne (by omega), wq_up_ne (by omega)]
  refine ⟨px_at_x h1 (fun c j a => e c j (by omega) (by omega)), ⟨(e 11 4 (by decide) (by omega)).trans h2, (e 11 6 (by decide) (by omega)).trans h2b, (e 11 14 (by decide) (by omega)).trans h2c, ?_⟩, ⟨wq_up_same _ _ _ _, ⟨?_, ?_, ?_⟩, cy_pl_x h4 (fun j hj => e 58 j (by omega) (by omega))⟩, ⟨?_, ?_⟩, fun j hj => ?_, fun l hl => ?_⟩
  · rw [e 59 8 (by decide) (by omega)]
    exact h2d
  · rw [wq_up_cell (by decide), wq_up_at (by omega), wq_up_at (by omega), wq_up_same]
  · rw [wq_up_cell (by decide), wq_up_at (by omega), wq_up_same]
  · rw [wq_up_cell (by decide), wq_up_same]
  · rw [e 56 12 (by decide) (by omega)]
    exact h5
  · rw [e 56 12 (by decide) (by omega)]
    exact h6
  · rw [e 14 j (by omega) (by omega)]
    exact h7 j hj
  · rw [e 65 l (by omega) (by omega)]
    exact h8 l hl
theorem cy_pc {A : List (Nat × Nat × Nat)} {T : Nat → Nat} {n O i s ns nf N : Nat} {G0 G : wq_F} {c0 cs : List (List Nat)} {P : List (Nat × Nat × Nat)} (h : cy T n G0 c0 O i cs s ns nf N (A ++ P) G) : cy T n G0 c0 O i cs s ns nf N P (wq_up G 56 11 (3 * P.length)) := by
  obtain ⟨h1, ⟨h2, h2b, h2c, h2d⟩, ⟨h3, h4⟩, ⟨h5, h6⟩, h7, h8⟩ := h
  have e : ∀ c j, ¬ (c = 56 ∧ j = 11) → wq_up G 56 11 (3 * P.length) c j = G c j := fun c j a => wq_up_ne a
  refine ⟨px_at_x h1 (fun c j a => e c j (by omega)), ⟨(e 11 4 (by decide)).trans h2, (e 11 6 (by decide)).trans h2b, (e 11 14 (by decide)).trans h2c, ?_⟩, ⟨wq_up_same _ _ _ _, cy_pl_x (cy_pl_drop h4) (fun j hj => e 58 j (by omega))⟩, ⟨?_, ?_⟩, fun j hj => ?_, fun l hl => ?_⟩
  · rw [e 59 8 (by decide)]
    exact h2d
  · rw [e 56 12 (by decide)]
    exact h5
  · rw [e 56 12 (by decide)]
    exact h6
  · rw [e 14 j (by omega)]
    exact h7 j hj
  · rw [e 65 l (by omega)]
    exact h8 l hl
/-- a whole number more, a function more -/
theorem cy_wn {v : Nat} {T : Nat → Nat} {n O i s ns nf N : Nat} {G0 G : wq_F} {c0 cs : List (List Nat)} {P : List (Nat × Nat × Nat)} (h : cy T n G0 c0 O i cs s ns nf N P G) : cy T n G0 c0 O i cs s (ns + 1) nf N P (wq_up (wq_up G 16 ns v) 11 6 (ns + 1)) := by
  have g := cy_mk h (H := wq_up (wq_up G 16 ns v) 11 6 (ns + 1)) (fun c j h1 h2 h3 => by rw [wq_up_ne (fun z => h2 (by omega)), wq_up_ne (fun z => h1 (by unfold cy_n; omega))]) (fun j hj => by rw [wq_up_cell (by decide), wq_up_cell (by decide)]; exact h.2.2.2.2.1 j hj) (fun l hl => by rw [wq_up_cell (by decide), wq_up_cell (by decide)]; exact h.2.2.2.2.2 l hl)
  rw [wq_up_same, wq_up_at (by decide), wq_up_cell (by decide), wq_up_at (by decide), wq_up_cell (by decide), h.2.1.1, h.2.1.2.2.1] at g
  exact g
/-! the stopped class -/
/-- the class's store of strings, at whatever token it stopped -/
def sx_st (T : Nat → Nat) (n : Nat) (G0 : wq_F) (c0 : List (List Nat)) (O : Nat) (G : wq_F) : Prop := ∃ i cs, i ≤ 1501 ∧
  (cs_ok G cs ∧ cs_w cs ∧ cs.length ≤ c0.length + i + 1 ∧ st_off cs cs.length ≤ O + tk_X T n i ∧ G 57 2 = n ∧ (∀ i, i < n → G 1 i = ev_b8 (T i))) ∧
  ((∀ s, s < c0.length → cs.getD s [] = c0.getD s []) ∧ c0.length ≤ cs.length ∧ (∀ s, c0.length ≤ s → s < cs.length → tk_said T n i (cs.getD s []) ∧ G 9 s = 3) ∧
    (∀ s, s < c0.length → G 9 s = G0 9 s ∨ (G0 9 s = 2 ∧ G 9 s = 3)) ∧ (∀ s, s < c0.length → (G0 9 s = 2 ∧ G 9 s = 3 ↔ G0 9 s = 2 ∧ tk_said T n i (c0.getD s []))) ∧ G 2 11 = cs.length)
theorem sx_st_x {T : Nat → Nat} {n O : Nat} {G0 G H : wq_F} {c0 : List (List Nat)} (h : sx_st T n G0 c0 O G) (hx : ∀ c j, ((1 ≤ c ∧ c ≤ 9 ∧ ¬ c = 2) ∨ (c = 57 ∧ j = 2) ∨ (c = 2 ∧ (j = 8 ∨ j = 9 ∨ j = 11))) → H c j = G c j) : sx_st T n G0 c0 O H := by
  obtain ⟨i, cs, hi, ⟨h8, h9, h10, h11, h12, h13⟩, ⟨g1, g2, g3, g4, g5, g6⟩⟩ := h
  have e : ∀ c, 3 ≤ c → c ≤ 9 → H c = G c := fun c a b => funext fun j => hx c j (by omega)
  have e9 : ∀ j, H 9 j = G 9 j := fun j => hx 9 j (by omega)
  refine ⟨i, cs, hi, ⟨cs_ok_up h8 ⟨hx 2 8 (by decide), hx 2 9 (by decide)⟩ (fun c a b => e c a (by omega)), h9, h10, h11, (hx 57 2 (by decide)).trans h12, fun j hj => (hx 1 j (by omega)).trans (h13 j hj)⟩, ⟨g1, g2, fun s a b => ⟨(g3 s a b).1, ?_⟩, fun s hs => ?_, fun s hs => ?_, (hx 2 11 (by decide)).trans g6⟩⟩
  · rw [e9 s]
    exact (g3 s a b).2
  · rw [e9 s]
    exact g4 s hs
  · rw [e9 s]
    exact g5 s hs
/-- stopped by fault k at p; N levels, B instructions at the most -/
def sx (T : Nat → Nat) (n : Nat) (G0 : wq_F) (c0 : List (List Nat)) (O k p N B : Nat) (G : wq_F) : Prop :=
  ps_at k p (1 + lc T p) G ∧ sx_st T n G0 c0 O G ∧ (G 11 4 ≤ B ∧ G 11 6 ≤ 10000 ∧ G 11 14 ≤ 50 ∧ G 59 8 + 1 = N ∧ 1 ≤ N ∧ N ≤ 24 ∧ G 59 3 ≤ 1200 ∧ G 56 11 ≤ 1320) ∧ (∀ j, j < 10000 → okj (G 14 j)) ∧ (∀ l, l < N → okj (G 65 l) ∧ G 63 l ≤ 1200)
/-- from the good state into the stopped one -/
theorem sx_of {k p B : Nat} {T : Nat → Nat} {n O i s ns nf N : Nat} {G0 G H : wq_F} {c0 cs : List (List Nat)} {P : List (Nat × Nat × Nat)} (h : cy T n G0 c0 O i cs s ns nf N P G) (hp : ps_at k p (1 + lc T p) H) (hf : px_fs G H) (hi : i ≤ 1501) (hs : s ≤ B) (hns : ns ≤ 10000) (hnf : nf ≤ 50) (hN : 1 ≤ N ∧ N ≤ 24) (ha : G 59 3 ≤ 1200) (hP : P.length ≤ 440) (h63 : ∀ l, l < N → G 63 l ≤ 1200) : sx T n G0 c0 O k p N B H := by
  obtain ⟨h1, ⟨h2, h2b, h2c, h2d⟩, ⟨h3, h4⟩, ⟨h5, h6⟩, h7, h8⟩ := h
  have e : ∀ c j, ¬ (c = 56 ∧ (j = 4 ∨ j = 5 ∨ j = 6)) → ¬ (c = 57 ∧ j = 4) → H c j = G c j := hf
  have hst : sx_st T n G0 c0 O G := ⟨i, cs, hi, h1.2.2.2.2.2.1, h1.2.2.2.2.2.2⟩
  refine ⟨hp, sx_st_x hst (fun c j a => e c j (by omega) (by omega)), ⟨?_, ?_, ?_, ?_, hN.1, hN.2, ?_, ?_⟩, fun j hj => ?_, fun l hl => ⟨?_, ?_⟩⟩
  · rw [e 11 4 (by decide) (by decide)]; omega
  · rw [e 11 6 (by decide) (by decide)]; omega
  · rw [e 11 14 (by decide) (by decide)]; omega
  · rw [e 59 8 (by decide) (by decide)]; omega
  · rw [e 59 3 (by decide) (by decide)]; omega
  · rw [e 56 11 (by decide) (by decide)]; omega
  · rw [e 14 j (by omega) (by omega)]; exact h7 j hj
  · rw [e 65 l (by omega) (by omega)]; exact h8 l hl
  · rw [e 63 l (by omega) (by omega)]; exact h63 l hl
theorem sx_le {k p N B B' : Nat} {T : Nat → Nat} {n O : Nat} {G0 G : wq_F} {c0 : List (List Nat)} (h : sx T n G0 c0 O k p N B G) (hB : B ≤ B') : sx T n G0 c0 O k p N B' G := ⟨h.1, h.2.1, ⟨Nat.le_trans h.2.2.1.1 hB, h.2.2.1.2⟩, h.2.2.2⟩
/-- other cells changed -/
theorem sx_x {k p N B : Nat} {T : Nat → Nat} {n O : Nat} {G0 G H : wq_F} {c0 : List (List Nat)} (h : sx T n G0 c0 O k p N B G) (hx : ∀ c j, ((c < 12 ∧ ¬ c = 10) ∨ c = 14 ∨ (56 ≤ c ∧ c ≤ 59 ∧ ¬ c = 58) ∨ c = 63 ∨ c = 65) → ¬ (c = 56 ∧ 7 ≤ j ∧ j ≤ 9) → ¬ (c = 59 ∧ 9 < j) → H c j = G c j) : sx T n G0 c0 O k p N B H := by
  obtain ⟨⟨p1, p2, p3, p4, p5⟩, hst, ⟨a1, a2, a3, a4, a5, a6, a7, a8⟩, b1, b2⟩ := h
  refine ⟨⟨?_, ?_, p3, ?_, ?_⟩, sx_st_x hst (fun c j a => hx c j (by omega) (by omega) (by omega)), ⟨?_, ?_, ?_, ?_, a5, a6, ?_, ?_⟩, fun j hj => ?_, fun l hl => ⟨?_, ?_⟩⟩
  · rw [hx 57 4 (by decide) (by decide) (by decide)]; exact p1
  · rw [hx 56 4 (by decide) (by decide) (by decide)]; exact p2
  · rw [hx 56 5 (by decide) (by decide) (by decide)]; exact p4
  · rw [hx 56 6 (by decide) (by decide) (by decide)]; exact p5
  · rw [hx 11 4 (by decide) (by decide) (by decide)]; exact a1
  · rw [hx 11 6 (by decide) (by decide) (by decide)]; exact a2
  · rw [hx 11 14 (by decide) (by decide) (by decide)]; exact a3
  · rw [hx 59 8 (by decide) (by decide) (by decide)]; exact a4
  · rw [hx 59 3 (by decide) (by decide) (by decide)]; exact a7
  · rw [hx 56 11 (by decide) (by decide) (by decide)]; exact a8
  · rw [hx 14 j (by omega) (by omega) (by omega)]; exact b1 j hj
  · rw [hx 65 l (by omega) (by omega) (by omega)]; exact (b2 l hl).1
  · rw [hx 63 l (by omega) (by omega) (by omega)]; exact (b2 l hl).2
