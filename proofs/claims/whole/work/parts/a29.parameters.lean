/-! ===== a29: the parameters (wip/whole2/lawa29.py) ===== -/
/-- v names of a function's parameters read: the reference knows them, the class hides them -/
def pq (N : Nat) (off voff ph : Nat → Nat) (cx : Nat → List Nat) (np f v : Nat) (F : wq_F) (ls : List (List Nat)) (G : wq_F) (cs : List (List Nat)) : Prop := bz N (at_N off N (off N + v)) voff ph cx [] np (wq_up F 0 50 (voff N)) ls G cs ∧ (F 0 50 = voff N + v ∧ G 62 (N - 1) = f ∧ F 14 f = v) ∧ (∀ i, off N ≤ i → i < off N + v → G 61 i = 4294967295) ∧ ∀ j, j < v → F 29 (voff N + j) < ls.length ∧ G 60 (off N + j) < cs.length ∧ ls.getD (F 29 (voff N + j)) [] = cs.getD (G 60 (off N + j)) [] ∧ F 30 (voff N + j) = j
/-- what the parameters leave -/
def pa_f (f b : Nat) (F H : wq_F) : Prop := (∀ d j, 8 < d → ¬ (d = 14 ∧ j = f) → ¬ (d = 16 ∧ j = f) → ¬ ((d = 29 ∨ d = 30) ∧ b ≤ j) → H d j = F d j) ∧ H 0 53 = F 0 53
def pa_g (f a : Nat) (G K : wq_F) : Prop := ∀ d j, 10 < d → ¬ d = 57 → ¬ (d = 19 ∧ j = f) → ¬ (d = 22 ∧ j = f) → ¬ ((d = 60 ∨ d = 61) ∧ a ≤ j) → ¬ (d = 59 ∧ j = 3) → K d j = G d j
theorem pa_f_t {f b : Nat} {A B C : wq_F} (h : pa_f f b A B) (g : pa_f f b B C) : pa_f f b A C := ⟨fun d j q1 q2 q3 q4 => (g.1 d j q1 q2 q3 q4).trans (h.1 d j q1 q2 q3 q4), g.2.trans h.2⟩
theorem pa_g_t {f a : Nat} {A B C : wq_F} (h : pa_g f a A B) (g : pa_g f a B C) : pa_g f a A C := fun d j q1 q2 q3 q4 q5 q6 => (g d j q1 q2 q3 q4 q5 q6).trans (h d j q1 q2 q3 q4 q5 q6)
theorem pa_g_fr {f a : Nat} {G K : wq_F} (h : px_fr G K) : pa_g f a G K := fun d j q1 q2 _ _ _ _ => h d j (by omega) (by omega) (by omega)
theorem pa_f_0 {f b j v : Nat} {F : wq_F} (hj : ¬ j = 53) : pa_f f b F (wq_up F 0 j v) := ⟨fun d j q1 _ _ _ => wq_up_cell (by omega), wq_up_at (fun z => hj z.symm)⟩
theorem at_N_2 {f : Nat → Nat} {N x y : Nat} : at_N (at_N f N x) N y = at_N f N y := funext fun l => by
  by_cases q : l = N
  · rw [q, at_N_is, at_N_is]
  · rw [at_N_ne q, at_N_ne q, at_N_ne q]
theorem at_N_0 {f : Nat → Nat} {N : Nat} : at_N f N (f N) = f := funext fun l => by
  by_cases q : l = N
  · rw [q, at_N_is]
  · rw [at_N_ne q]
theorem dkS_220 {F : wq_F} {a x b : Nat} (h : F 0 50 = b) (hb : b < 1600) : dk_220 F a x = some (0, wq_up (wq_up (wq_up F 29 b a) 30 b x) 0 50 (b + 1)) := by
  unfold dk_220
  rw [h, od_g1 hb, od_upS, wq_up_cell (by decide), h, od_g1 hb, od_upS, wq_up_cell (by decide), wq_up_cell (by decide), h, od_upS, Nat.mod_eq_of_lt (show b + 1 < 4294967296 by omega)]
/-- the reference's new name -/
def pa_F (F : wq_F) (f b v nr : Nat) : wq_F := wq_up (wq_up (wq_up (wq_up F 14 f (v + 1)) 29 b nr) 30 b v) 0 50 (b + 1)
theorem pa_F_c {F : wq_F} {f b v nr d j : Nat} (h1 : ¬ (d = 14 ∧ j = f)) (h2 : ¬ ((d = 29 ∨ d = 30) ∧ j = b)) (h3 : ¬ (d = 0 ∧ j = 50)) : pa_F F f b v nr d j = F d j := by
  unfold pa_F
  rw [wq_up_ne h3, wq_up_ne (by omega), wq_up_ne (by omega), wq_up_ne h1]
theorem pa_F_f {F : wq_F} {f b v nr : Nat} : pa_f f b F (pa_F F f b v nr) := ⟨fun d j q1 q2 q3 q4 => pa_F_c q2 (by omega) (by omega), pa_F_c (by omega) (by omega) (by omega)⟩
section
variable {nn : Nat} {T : Nat → Nat} {n M O : Nat} {G0 : wq_F} {c0 : List (List Nat)} {i t w s nw ns np N : Nat} {off voff ph : Nat → Nat} {cx : Nat → List Nat} {c cb : List Nat} {W : List (Nat × Nat × Nat × Nat)} {L : List (Nat × Nat)} {P Q : List (Nat × Nat × Nat)} {ls cs : List (List Nat)} {F G : wq_F}

theorem bz_room (hb : bz N off voff ph cx c np F ls G cs) (h : G 19 (G 62 (N - 1)) < 50) : off N < 1200 := by
  have s1 := hb.1.1
  have hsum := ll_sum hb.2.2.1 s1.2.2.2.2.1 (fun l hl => (hb.1.2.1 l hl).1) (N - 1) (by omega)
  have hlN := hb.2.2.1 (N - 1) (by omega)
  rw [show N - 1 + 1 = N by omega] at hlN
  omega
theorem sc_k (h : sc_ok N off voff ph F ls G cs) : ∀ k, k < voff N → k ≤ ph k := by
  obtain ⟨s1, s2, s3, s4, _⟩ := h
  intro k
  induction k with
  | zero => intro _; exact Nat.zero_le _
  | succ k ih =>
    intro hk
    have := ih (by omega)
    have := s4 k (k + 1) (by omega) hk
    omega
theorem bz_vle (hb : bz N off voff ph cx c np F ls G cs) : voff N ≤ off N := by
  by_cases q : voff N = 0
  · omega
  · have h1 := sc_k hb.1 (voff N - 1) (by omega)
    have h2 := (hb.1.2.2.1 (voff N - 1) (by omega)).1
    omega
theorem pq_vo {o : Nat → Nat} {a v : Nat} (h : sc_ok N o voff ph F ls G cs) (ho : o N = a + v) (hid : ∀ i, a ≤ i → i < a + v → G 61 i = 4294967295) : voff N ≤ a := by
  by_cases q : voff N = 0
  · omega
  · have h1 := sc_k h (voff N - 1) (by omega)
    have h2 := h.2.2.1 (voff N - 1) (by omega)
    by_cases z : ph (voff N - 1) < a
    · omega
    · have h3 := hid (ph (voff N - 1)) (by omega) (by omega)
      omega
variable {f v B : Nat}
theorem pq_g {K : wq_F} {ms : List (List Nat)} (hp : pq N off voff ph cx np f v F ls G cs) (hf : px_fr G K) (hm : st_pre cs ms) : pq N off voff ph cx np f v F ls K ms := by
  obtain ⟨p1, ⟨p2, p3, p4⟩, p5, p6⟩ := hp
  refine ⟨bz_nx p1 hf hm, ⟨p2, (hf 62 _ (by omega) (by omega) (by omega)).trans p3, p4⟩, fun i h1 h2 => (hf 61 i (by omega) (by omega) (by omega)).trans (p5 i h1 h2), fun j hj => ?_⟩
  obtain ⟨a1, a2, a3, a4⟩ := p6 j hj
  rw [hf 60 _ (by omega) (by omega) (by omega)]
  exact ⟨a1, Nat.lt_of_lt_of_le a2 hm.1, by rw [hm.2 _ a2]; exact a3, a4⟩
theorem pq_h {H : wq_F} (hp : pq N off voff ph cx np f v F ls G cs) (h0 : ∀ d j, ¬ d = 0 → H d j = F d j) (h50 : H 0 50 = F 0 50) (h53 : H 0 53 = F 0 53) : pq N off voff ph cx np f v H ls G cs := by
  obtain ⟨p1, ⟨p2, p3, p4⟩, p5, p6⟩ := hp
  refine ⟨bz_F p1 ⟨fun d hd => funext fun j => ((wq_up_cell (by omega)).trans (h0 d j (by omega))).trans (wq_up_cell (by omega)).symm, (wq_up_same _ _ _ _).trans (wq_up_same _ _ _ _).symm, ((wq_up_at (by decide)).trans h53).trans (wq_up_at (by decide)).symm⟩, ⟨h50.trans p2, p3, (h0 14 f (by decide)).trans p4⟩, p5, fun j hj => ?_⟩
  rw [h0 29 _ (by decide), h0 30 _ (by decide)]
  exact p6 j hj
theorem pq_new {nr nc : Nat} (hp : pq N off voff ph cx np f v F ls G cs) (hv : v < 50) (h1 : nr < ls.length) (h2 : nc < cs.length) (h3 : ls.getD nr [] = cs.getD nc []) : pq N off voff ph cx np f (v + 1) (pa_F F f (voff N + v) v nr) ls (hd_up G f (off N + v) nc) cs := by
  obtain ⟨p1, ⟨p2, p3, p4⟩, p5, p6⟩ := hp
  have hN := p1.1.1.1
  have l1 := p1.2.2.1 (N - 1) (by omega)
  have l2 : F 14 f = G 19 f := by
    have y := l1.1
    rw [p3, wq_up_cell (by decide)] at y
    exact y
  have y := bz_hide p1 h2 (by rw [p3, ← l2, p4]; exact hv)
  rw [at_N_2, at_N_is, p3, wq_up_cell (show ¬ (14 : Nat) = 0 by decide), p4] at y
  refine ⟨bz_29 y ?_ ?_ (fun d j hd => ?_) (fun k hk => ⟨?_, ?_⟩), ⟨wq_up_same _ _ _ _, ?_, ?_⟩, fun i a b => ?_, fun j hj => ?_⟩
  · rw [wq_up_same, wq_up_cell (by decide), wq_up_same]
  · rw [wq_up_at (by decide), pa_F_c (by omega) (by omega) (by omega), wq_up_cell (by decide), wq_up_at (by decide)]
  · rw [wq_up_cell (by omega)]
    unfold pa_F
    rw [wq_up_cell (by omega), wq_up_cell (by omega), wq_up_cell (by omega)]
    by_cases z : d = 14 ∧ j = f
    · rw [z.1, z.2, wq_up_same, wq_up_same]
    · rw [wq_up_ne z, wq_up_ne z, wq_up_cell (by omega)]
  · rw [wq_up_cell (by decide), pa_F_c (by omega) (by omega) (by omega), wq_up_cell (by decide), wq_up_cell (by decide)]
  · rw [wq_up_cell (by decide), pa_F_c (by omega) (by omega) (by omega), wq_up_cell (by decide), wq_up_cell (by decide)]
  · rw [hd_cell (by omega) (by omega) (by omega)]
    exact p3
  · unfold pa_F
    rw [wq_up_cell (by decide), wq_up_cell (by decide), wq_up_cell (by decide), wq_up_same]
  · by_cases z : i = off N + v
    · unfold hd_up
      rw [z, wq_up_cell (by decide), wq_up_same]
    · rw [hd_cell (by omega) (by omega) (by omega)]
      exact p5 i a (by omega)
  · by_cases z : j = v
    · have t1 : pa_F F f (voff N + v) v nr 29 (voff N + v) = nr := by
        unfold pa_F
        rw [wq_up_cell (by decide), wq_up_cell (by decide), wq_up_same]
      have t2 : pa_F F f (voff N + v) v nr 30 (voff N + v) = v := by
        unfold pa_F
        rw [wq_up_cell (by decide), wq_up_same]
      have t3 : hd_up G f (off N + v) nc 60 (off N + v) = nc := by
        unfold hd_up
        rw [wq_up_cell (by decide), wq_up_cell (by decide), wq_up_same]
      rw [z, t1, t2, t3]
      exact ⟨h1, h2, h3, rfl⟩
    · rw [pa_F_c (by omega) (by omega) (by omega), pa_F_c (by omega) (by omega) (by omega), hd_cell (by omega) (by omega) (by omega)]
      exact p6 j (by omega)
/-- ... -/
theorem pq_dots (hp : pq N off voff ph cx np f v F ls G cs) : pq N off voff ph cx np f v (wq_up F 16 f 1) ls (wq_up G 22 f 1) cs := by
  obtain ⟨p1, ⟨p2, p3, p4⟩, p5, p6⟩ := hp
  obtain ⟨b1, b2, b3, b4, b5, b6, b7, b8⟩ := p1
  have e : wq_up (wq_up F 16 f 1) 0 50 (voff N) = wq_up (wq_up F 0 50 (voff N)) 16 f 1 := by
    funext d j
    by_cases z : d = 0
    · rw [wq_up_cell (show ¬ d = 16 by omega)]
      by_cases y : j = 50
      · rw [z, y, wq_up_same, wq_up_same]
      · rw [wq_up_ne (fun x => y x.2), wq_up_ne (fun x => y x.2), wq_up_cell (by omega)]
    · rw [wq_up_cell z]
      by_cases y : d = 16 ∧ j = f
      · rw [y.1, y.2, wq_up_same, wq_up_same]
      · rw [wq_up_ne y, wq_up_ne y, wq_up_cell z]
  refine ⟨?_, ⟨(wq_up_cell (by decide)).trans p2, (wq_up_cell (by decide)).trans p3, (wq_up_cell (by decide)).trans p4⟩, fun i a b => (wq_up_cell (by decide)).trans (p5 i a b), fun j hj => ?_⟩
  · rw [e]
    generalize wq_up F 0 50 (voff N) = E at *
    have fc : ∀ d, ¬ d = 16 → wq_up E 16 f 1 d = E d := fun d hd => funext fun j => wq_up_cell hd
    have gc : ∀ d, ¬ d = 22 → wq_up G 22 f 1 d = G d := fun d hd => funext fun j => wq_up_cell hd
    refine ⟨sc_ok_up b1 ⟨by rw [fc 0 (by decide)], by rw [fc 0 (by decide)]⟩ (fun c a b => fc c (by omega)) ⟨by rw [gc 59 (by decide)], by rw [gc 59 (by decide)]⟩ (fun c a b => gc c (by omega)) (st_pre_refl _) (st_pre_refl _), cp_ok_up b2 ⟨fc 15 (by decide), fc 18 (by decide), fc 19 (by decide), fc 30 (by decide)⟩ ⟨gc 20 (by decide), gc 23 (by decide), gc 60 (by decide), gc 61 (by decide), gc 62 (by decide), gc 66 (by decide)⟩ (Nat.le_refl _), ?_, fun l hl => ?_, fun l k a b c => ?_, fun l hl => ?_, fun l hl => ⟨?_, ?_⟩, b8⟩
    · unfold ll_ok at b3 ⊢
      rw [fc 14 (by decide), fc 30 (by decide), gc 19 (by decide), gc 62 (by decide)]
      exact b3
    · rw [gc 64 (by decide)]
      exact b4 l hl
    · rw [gc 61 (by decide), fc 30 (by decide)]
      exact b5 l k a b c
    · rw [gc 62 (by decide)]
      exact b6 l hl
    · rw [gc 62 (by decide)]
      by_cases z : G 62 l = f
      · rw [z, wq_up_same, wq_up_same]
      · rw [wq_up_at z, wq_up_at z]
        exact (b7 l hl).1
    · rw [gc 62 (by decide), fc 14 (by decide)]
      exact (b7 l hl).2
  · rw [wq_up_cell (by decide), wq_up_cell (by decide), wq_up_cell (by decide)]
    exact p6 j hj
/-- the numbers that both steps ask for -/
theorem pq_n (hp : pq N off voff ph cx np f v F ls G cs) (hnp : np ≤ 50) : (G 59 8 + 1 = N ∧ N ≤ 24 ∧ 1 ≤ N) ∧ (G 62 (G 59 8) = f ∧ f < 50) ∧ G 59 3 = off N + v ∧ (G 19 f = v ∧ v ≤ 50) ∧ (F 0 53 + 1 = N ∧ F 32 (F 0 53) = f) ∧ (off N + v ≤ 1200 ∧ (v < 50 → off N + v < 1200)) ∧ voff N ≤ off N := by
  obtain ⟨p1, ⟨p2, p3, p4⟩, p5, p6⟩ := hp
  obtain ⟨n1, n2, n3, n4, n5, n6, n7, n8, n9⟩ := p1.1.1
  have l1 := p1.2.2.1 (N - 1) (by omega)
  have l2 := p1.1.2.1 (N - 1) (by omega)
  have h6 := p1.2.2.2.2.2.1 (N - 1) (by omega)
  rw [p3] at h6
  have e8 : G 59 8 = N - 1 := by omega
  have e53 : wq_up F 0 50 (voff N) 0 53 = F 0 53 := wq_up_at (by decide)
  rw [e53] at n3
  have e53b : F 0 53 = N - 1 := by omega
  have c14 : wq_up F 0 50 (voff N) 14 f = v := (wq_up_cell (by decide)).trans p4
  have c32 : wq_up F 0 50 (voff N) 32 (N - 1) = F 32 (N - 1) := wq_up_cell (by decide)
  rw [p3, c14] at l1
  rw [p3, c32] at l2
  rw [at_N_is] at n7 n9
  have vle := pq_vo p1.1 at_N_is p5
  have l11 := l1.1
  have l12 := l1.2.1
  refine ⟨⟨n4, n2, n1⟩, ⟨by rw [e8]; exact p3, by omega⟩, n7, ⟨l11.symm, by omega⟩, ⟨n3, by rw [e53b]; exact l2.2.2.2.2.1⟩, ⟨n9, fun q => ?_⟩, vle⟩
  have z := bz_room p1 (by rw [p3, ← l11]; exact q)
  rw [at_N_is] at z
  exact z
/-- the reference's step at a name -/
theorem pa_ref {g : Nat × wq_F → Option (Nat × wq_F)} (hM : tk_M T n M) (hr : ry T n M i ls t w nw np W L P F) (hp : pq N off voff ph cx np f v F ls G cs) (hnp : np ≤ 50) (h1 : tk_k T n i = 1) : ((dk_210 F).bind fun y13 => (dk_219 y13.2 y13.1).bind fun y17 => if 2147483648 ≤ y17.1 then some (0, y17.2) else od_g (y17.2 0 25 < 1502) <| od_let (18446744073709551616 + y17.2 11 (y17.2 0 25)) fun y23 => (dk_220 y17.2 (ev_oL2i y23) y17.1).bind g) = if v < 50 then g (0, pa_F F f (voff N + v) v (F 11 i)) else some (0, pm_f F 3 (tk_pos T n i)) := by
  obtain ⟨⟨n1, n2, n3⟩, ⟨n4, n5⟩, n6, ⟨n7, n8⟩, ⟨n9, n10⟩, ⟨n11, n12⟩, n13⟩ := pq_n hp hnp
  obtain ⟨p1, ⟨p2, p3, p4⟩, p5, p6⟩ := hp
  have hM1 := hM.1
  have hiM := hr.1.2.2.1
  have h25 : F 0 25 = i := hr.1.2.1
  have vr := (hr.1.2.2.2.2.2.1 i (by omega)).2.2.2 (Or.inl h1)
  have hlb := lsb_len p1.2.2.2.2.2.2.2 (rs_ok_f hr.1.2.2.2.2.2.2 (f := 50) (v := voff N) (by decide) (by decide))
  rw [pm_here hM hr.1, od_bS]
  dsimp only
  rw [dkS_219 (f := f) (by omega) n10 (by omega) (by omega) hr.1.1, p4]
  by_cases q : v < 50
  · rw [if_pos q, if_pos q, od_bS]
    dsimp only
    rw [if_neg (by omega), od_g1 (by rw [wq_up_cell (by decide), h25]; omega), od_letS, wq_up_cell (by decide), wq_up_cell (by decide), h25, tb_l2i (by omega), dkS_220 (b := voff N + v) ((wq_up_cell (by decide)).trans p2) (by omega), od_bS]
    rfl
  · rw [if_neg q, if_neg q, od_bS]
    dsimp only
    rw [if_pos (by decide)]
/-- the class's step at a name -/
theorem pa_cls {nc : Nat} (hp : pq N off voff ph cx np f v F ls G cs) (hnp : np ≤ 50) (h57 : G 57 4 = 2) (h8 : G 57 8 = 18446744073709551616 + nc) (hnc : nc < 4294967296) : dk_124 G = if v < 50 then some (0, hd_up G f (off N + v) nc) else (dk_109 G 3).bind fun y7 => some (0, y7.2) := by
  obtain ⟨⟨n1, n2, n3⟩, ⟨n4, n5⟩, n6, ⟨n7, n8⟩, ⟨n9, n10⟩, ⟨n11, n12⟩, n13⟩ := pq_n hp hnp
  unfold dk_124
  rw [if_pos h57, h8, tb_l2i hnc, dkS_166 (f := f) (a := off N + v) (by omega) n4 n5 n6 (by rw [n7]; exact n12) n11 (by omega), n7]
  by_cases q : v < 50
  · rw [if_pos q, if_pos q, od_bS]
    dsimp only
    rw [if_neg (by decide)]
  · rw [if_neg q, if_neg q, od_bS]
    dsimp only
    rw [if_pos rfl]
theorem pa_77 (hM : tk_M T n M) (hr : ry T n M i ls t w nw np W L P F) (hc : cy T n G0 c0 O i cs s ns np N Q G) (hp : pq N off voff ph cx np f v F ls G cs) (h6 : ¬ tk_k T n i = 6) (h7 : ¬ tk_k T n i = 7) (hn : 10000 < nn) (hc0 : c0.length ≤ 1400) (hO : O ≤ 20000) (hs : s ≤ B) (hns : ns ≤ 10000) (hnp : np ≤ 50) (hQ : Q.length ≤ 440) :
    wok (dk_77 nn G) (fun _ K => (i < M ∧ dk_212 F = some (1, wq_up F 0 25 (i + 1)) ∧ ∃ ms, ry T n M (i + 1) ls t w nw np W L P (wq_up F 0 25 (i + 1)) ∧ cy T n G0 c0 O (i + 1) ms s ns np N Q K ∧ pq N off voff ph cx np f v (wq_up F 0 25 (i + 1)) ls K ms ∧ px_fr G K ∧ st_pre cs ms) ∨ (dk_212 F = some (0, pm_f F 3 (tk_pos T n i)) ∧ sx T n G0 c0 O 3 (tk_pos T n i) N B K)) := by
  have hM1 := hM.1
  have hi := hr.1.2.2.1
  rcases pt_take (nn := nn) hM ⟨hr.1, hc.1⟩ h6 h7 (by omega) hc0 hO with ⟨H, ms, a1, a2, a3, a4, a5⟩ | ⟨H, a1, a2, a3, a4⟩
  · have iM : i < M := a3.1.2.2.1
    exact wok_e a2 (Or.inl ⟨iM, a1, ms, ry_nx hr iM, cy_nx hc a3.2 a4, pq_g (pq_h hp (fun d j q => wq_up_cell q) (wq_up_at (by decide)) (wq_up_at (by decide))) a4 a5, a4, a5⟩)
  · exact wok_e a2 (Or.inr ⟨a1, sx_in hc hp.1 a3 a4 (by omega) hs hns hnp hQ⟩)
/-- the closing ) -/
theorem pa_sg (hM : tk_M T n M) (hr : ry T n M i ls t w nw np W L P F) (hc : cy T n G0 c0 O i cs s ns np N Q G) (hp : pq N off voff ph cx np f v F ls G cs) (hn : 10000 < nn) (hc0 : c0.length ≤ 1400) (hO : O ≤ 20000) (hs : s ≤ B) (hns : ns ≤ 10000) (hnp : np ≤ 50) (hQ : Q.length ≤ 440) (hw : w < 13990) : wok (dk_110 nn G 52) (fun _ K => (∃ i' v' ms H, dk_213 F 41 = some (1, H) ∧ ry T n M i' ls t w nw np W L P H ∧ cy T n G0 c0 O i' ms s ns np N Q K ∧ pq N off voff ph cx np f v' H ls K ms ∧ (st_pre cs ms ∧ (i ≤ i' ∧ i + v' ≤ i' + v) ∧ rm_fr F H) ∧ pa_f f (voff N) F H ∧ pa_g f (off N) G K) ∨ ∃ k p H, dk_213 F 41 = some (0, pm_f H k p) ∧ rm_fr F H ∧ H 0 41 < 13999 ∧ sx T n G0 c0 O k p N B K) := by
  have hM1 := hM.1
  have hi := hr.1.2.2.1
  rcases pt_needSign (nn := nn) (c := 41) hM ⟨hr.1, hc.1⟩ (by decide) (by decide) (by omega) hc0 hO with ⟨H, ms, a1, a2, a3, a4, a5⟩ | ⟨H, k, a1, a2, a3, a4⟩
  · have iM : i < M := a3.1.2.2.1
    exact wok_e a2 (Or.inl ⟨i + 1, v, ms, wq_up F 0 25 (i + 1), a1, ry_nx hr iM, cy_nx hc a3.2 a4, pq_g (pq_h hp (fun d j q => wq_up_cell q) (wq_up_at (by decide)) (wq_up_at (by decide))) a4 a5, ⟨a5, ⟨by omega, by omega⟩, rm_fr_up (rm_fr_refl _) (by decide) (by decide)⟩, pa_f_0 (by decide), pa_g_fr a4⟩)
  · exact wok_e a2 (Or.inr ⟨k, tk_pos T n i, F, a1, rm_fr_refl _, by rw [hr.2.1.2.1]; omega, sx_in hc hp.1 a3 a4 (by omega) hs hns hnp hQ⟩)
/-- both refuse what stands there -/
theorem pa_wr (hM : tk_M T n M) (hr : ry T n M i ls t w nw np W L P F) (hc : cy T n G0 c0 O i cs s ns np N Q G) (hp : pq N off voff ph cx np f v F ls G cs) (hs : s ≤ B) (hns : ns ≤ 10000) (hnp : np ≤ 50) (hQ : Q.length ≤ 440) : dk_211 F = some (0, pm_f F (tk_wr T n i) (tk_pos T n i)) ∧ wok (dk_109 G 2) (fun _ K => sx T n G0 c0 O (tk_wr T n i) (tk_pos T n i) N B K) := by
  have hM1 := hM.1
  have hi := hr.1.2.2.1
  obtain ⟨H, a1, a2, a3, a4⟩ := pt_wrong hM ⟨hr.1, hc.1⟩
  exact ⟨a1, wok_e a2 (sx_in hc hp.1 a3 a4 (by omega) hs hns hnp hQ)⟩
theorem pa_f3 (hM : tk_M T n M) (hr : ry T n M i ls t w nw np W L P F) (hc : cy T n G0 c0 O i cs s ns np N Q G) (hp : pq N off voff ph cx np f v F ls G cs) (hs : s ≤ B) (hns : ns ≤ 10000) (hnp : np ≤ 50) (hQ : Q.length ≤ 440) : wok (dk_109 G 3) (fun _ K => sx T n G0 c0 O 3 (tk_pos T n i) N B K) := by
  have hM1 := hM.1
  have hi := hr.1.2.2.1
  obtain ⟨H, a1, a2, a3, a4⟩ := pt_fail3 hM ⟨hr.1, hc.1⟩
  exact wok_e a2 (sx_in hc hp.1 a3 a4 (by omega) hs hns hnp hQ)
/-- ... and ) -/
theorem pa_dots {r : wq_F → Nat → Nat → Option (Nat × wq_F)} (hM : tk_M T n M) (hr : ry T n M i ls t w nw np W L P F) (hc : cy T n G0 c0 O i cs s ns np N Q G) (hp : pq N off voff ph cx np f v F ls G cs) (hn : 10000 < nn) (hc0 : c0.length ≤ 1400) (hO : O ≤ 20000) (hs : s ≤ B) (hns : ns ≤ 10000) (hnp : np ≤ 50) (hQ : Q.length ≤ 440) (hw : w < 13990) (hk : tk_k T n i = 5 ∧ tk_V T n (tk_pos T n i) = 301) : wok ((dk_156_117 nn G f 1).bind fun y => dk_110 nn y.2 52) (fun _ K => (∃ i' v' ms H, dk_254_16b nn r F f 1 = some (1, H) ∧ ry T n M i' ls t w nw np W L P H ∧ cy T n G0 c0 O i' ms s ns np N Q K ∧ pq N off voff ph cx np f v' H ls K ms ∧ (st_pre cs ms ∧ (i ≤ i' ∧ i + v' ≤ i' + v) ∧ rm_fr F H) ∧ pa_f f (voff N) F H ∧ pa_g f (off N) G K) ∨ ∃ k p H, dk_254_16b nn r F f 1 = some (0, pm_f H k p) ∧ rm_fr F H ∧ H 0 41 < 13999 ∧ sx T n G0 c0 O k p N B K) := by
  obtain ⟨_, ⟨_, n5⟩, _⟩ := pq_n hp hnp
  have hr1 : ry T n M i ls t w nw np W L P (wq_up F 16 f 1) := ry_up hr (by unfold ry_n; omega)
  have hc1 : cy T n G0 c0 O i cs s ns np N Q (wq_up G 22 f 1) := cy_up hc (by unfold cy_n; omega)
  have hp1 := pq_dots hp
  have xf : pa_f f (voff N) F (wq_up F 16 f 1) := ⟨fun d j q1 q2 q3 q4 => wq_up_ne q3, wq_up_cell (by decide)⟩
  have xg : pa_g f (off N) G (wq_up G 22 f 1) := fun d j q1 q2 q3 q4 q5 q6 => wq_up_ne q4
  have ff : rm_fr F (wq_up F 16 f 1) := rm_fr_up (rm_fr_refl _) (by decide) (fun z => absurd z (by decide))
  have hd : dk_254_16b nn r F f 1 = (dk_212 (wq_up F 16 f 1)).bind fun y53 => if y53.1 = 0 then some (0, y53.2) else (dk_213 y53.2 41).bind fun y58 => if y58.1 = 0 then some (0, y58.2) else some (1, y58.2) := by
    unfold dk_254_16b
    rw [if_neg (by decide), pm_isSign hM hr.1 (by decide), od_bS]
    dsimp only
    rw [if_ck, if_pos hk, od_g1 (by omega), od_upS]
  unfold dk_156_117
  rw [if_neg (by decide), od_g1 n5, od_upS]
  generalize wq_up F 16 f 1 = F1 at *
  generalize wq_up G 22 f 1 = G1 at *
  refine wok_b (A := fun _ K => (i < M ∧ dk_212 F1 = some (1, wq_up F1 0 25 (i + 1)) ∧ ∃ ms, ry T n M (i + 1) ls t w nw np W L P (wq_up F1 0 25 (i + 1)) ∧ cy T n G0 c0 O (i + 1) ms s ns np N Q K ∧ pq N off voff ph cx np f v (wq_up F1 0 25 (i + 1)) ls K ms ∧ px_fr G1 K ∧ st_pre cs ms) ∨ (dk_212 F1 = some (0, pm_f F1 3 (tk_pos T n i)) ∧ sx T n G0 c0 O 3 (tk_pos T n i) N B K)) (wok_b (pa_77 hM hr1 hc1 hp1 (by omega) (by omega) hn hc0 hO hs hns hnp hQ) fun r K h => wok_r h) fun r1 K1 h1 => ?_
  dsimp only
  rcases h1 with ⟨iM, e1, ms, r2, c2, p2, f2, s2⟩ | ⟨e1, hx⟩
  · rw [e1, od_bS] at hd
    dsimp only at hd
    rw [if_neg (by decide)] at hd
    have f2' : rm_fr F (wq_up F1 0 25 (i + 1)) := rm_fr_up ff (by decide) (by decide)
    have xf2 : pa_f f (voff N) F (wq_up F1 0 25 (i + 1)) := pa_f_t xf (pa_f_0 (by decide))
    generalize wq_up F1 0 25 (i + 1) = F2 at *
    refine wok_m (pa_sg hM r2 c2 p2 hn hc0 hO hs hns hnp hQ hw) fun r K h => ?_
    rcases h with ⟨i', v', ms', H, e, r3, c3, p3, ⟨s3, i3, f3⟩, xf3, xg3⟩ | ⟨k, p, H, e, f3, w3, hx⟩
    · rw [e, od_bS] at hd
      dsimp only at hd
      rw [if_neg (by decide)] at hd
      exact Or.inl ⟨i', v', ms', H, hd, r3, c3, p3, ⟨st_pre_trans s2 s3, ⟨by omega, by omega⟩, rm_fr_trans f2' f3⟩, pa_f_t xf2 xf3, pa_g_t (pa_g_t xg (pa_g_fr f2)) xg3⟩
    · rw [e, od_bS] at hd
      dsimp only at hd
      rw [if_pos rfl] at hd
      exact Or.inr ⟨k, p, H, hd, rm_fr_trans f2' f3, w3, hx⟩
  · rw [e1, od_bS] at hd
    dsimp only at hd
    rw [if_pos rfl] at hd
    exact wok_m (sx_110 hx (by decide)) fun r K h => Or.inr ⟨3, tk_pos T n i, F1, hd, ff, by rw [hr1.2.1.2.1]; omega, h⟩
end
