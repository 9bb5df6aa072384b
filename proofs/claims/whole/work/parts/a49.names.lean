/-! ===== a49: names of a local statement, of a loop: read and hidden (wip/whole2/lawa49.py) ===== -/
theorem wok_bb {m : Option (Nat × wq_F)} {f k : Nat × wq_F → Option (Nat × wq_F)} {A C : Nat → wq_F → Prop} (h : wok (m.bind f) A) (hk : ∀ r K, A r K → wok (k (r, K)) C) : wok (m.bind fun y => (f y).bind k) C := by
  have e : (m.bind fun y => (f y).bind k) = (m.bind f).bind k := by
    cases m with
    | none => rfl
    | some y => rfl
  rw [e]
  exact wok_b h hk
/-- the reference at a name that is counted -/
def nmR (F : wq_F) (g : Nat → wq_F → Option (Nat × wq_F)) : Option (Nat × wq_F) :=
  od_g (F 0 25 < 1502) <|
  if (F 9 (F 0 25)) = 1 then
    (dk_210 F).bind fun y50 =>
    (dk_219 y50.2 y50.1).bind fun y54 =>
    if 2147483648 ≤ y54.1 then
      some (0, y54.2)
    else
      (dk_212 y54.2).bind fun y59 =>
      if y59.1 = 0 then
        some (0, y59.2)
      else
        g y54.1 y59.2
  else
    (dk_211 F).bind fun y77 =>
    some (y77.1, y77.2)
def nm_f (f : Nat) (F H : wq_F) : Prop := ∀ d j, ¬ d = 0 → ¬ (d = 14 ∧ j = f) → H d j = F d j
def nm_g (f a : Nat) (G K : wq_F) : Prop := ∀ d j, 10 < d → ¬ d = 57 → ¬ (d = 19 ∧ j = f) → ¬ ((d = 60 ∨ d = 61) ∧ a ≤ j) → ¬ (d = 59 ∧ j = 3) → K d j = G d j
theorem nm_f_t {f : Nat} {A B C : wq_F} (h : nm_f f A B) (g : nm_f f B C) : nm_f f A C := fun d j a b => (g d j a b).trans (h d j a b)
theorem nm_g_t {f a b : Nat} {A B C : wq_F} (h : nm_g f a A B) (g : nm_g f b B C) (hb : a ≤ b) : nm_g f a A C := fun d j q1 q2 q3 q4 q5 => (g d j q1 q2 q3 (fun z => q4 ⟨z.1, by omega⟩) q5).trans (h d j q1 q2 q3 q4 q5)
theorem nm_g_fr {f a : Nat} {G K : wq_F} (h : px_fr G K) : nm_g f a G K := fun d j q1 q2 _ _ _ => h d j (by omega) (by omega) (by omega)
section
variable {nn : Nat} {T : Nat → Nat} {n M O : Nat} {G0 : wq_F} {c0 : List (List Nat)} {i t w s nw ns np N : Nat} {off voff ph : Nat → Nat} {cx : Nat → List Nat} {c cb : List Nat} {W : List (Nat × Nat × Nat × Nat)} {L : List (Nat × Nat)} {P Q : List (Nat × Nat × Nat)} {ls cs : List (List Nat)} {F G : wq_F}

variable {f B : Nat}
theorem nm_n (hb : bz N off voff ph cx c np F ls G cs) (hnp : np ≤ 50) (hf : G 62 (N - 1) = f) : (G 59 8 + 1 = N ∧ N ≤ 24 ∧ 1 ≤ N) ∧ (G 62 (G 59 8) = f ∧ f < 50) ∧ G 59 3 = off N ∧ (F 14 f = G 19 f ∧ G 19 f ≤ 50) ∧ (F 0 53 + 1 = N ∧ F 32 (F 0 53) = f) ∧ off N ≤ 1200 ∧ (G 19 f < 50 → off N < 1200) := by
  obtain ⟨n1, n2, n3, n4, n5, n6, n7, n8, n9⟩ := hb.1.1
  have l1 := hb.2.2.1 (N - 1) (by omega)
  have l2 := hb.1.2.1 (N - 1) (by omega)
  have h6 := hb.2.2.2.2.2.1 (N - 1) (by omega)
  have e8 : G 59 8 = N - 1 := by omega
  have e53 : F 0 53 = N - 1 := by omega
  rw [hf] at l1 l2 h6
  exact ⟨⟨n4, n2, n1⟩, ⟨by rw [e8]; exact hf, by omega⟩, n7, ⟨l1.1, l1.2.1⟩, ⟨n3, by rw [e53]; exact l2.2.2.2.2.1⟩, n9, fun q => bz_room hb (by rw [hf]; exact q)⟩
/-- one name on both sides -/
theorem nm_any {g : Nat → wq_F → Option (Nat × wq_F)} (hM : tk_M T n M) (hn : 10000 < nn) (hc0 : c0.length ≤ 1400) (hO : O ≤ 20000) (hr : ry T n M i ls t w nw np W L P F) (hc : cy T n G0 c0 O i cs s ns np N Q G) (hb : bz N off voff ph cx c np F ls G cs) (hs : s ≤ B) (hns : ns ≤ 10000) (hnp : np ≤ 50) (hQ : Q.length ≤ 440) (hw : w < 13990) (hf : G 62 (N - 1) = f) : wok ((dk_124 G).bind fun y => dk_77 nn y.2) (fun _ K => (∃ ms H, (tk_k T n i = 1 ∧ F 14 f < 50 ∧ i < M) ∧ nmR F g = g (F 14 f) H ∧ ry T n M (i + 1) ls t w nw np W L P H ∧ cy T n G0 c0 O (i + 1) ms s ns np N Q K ∧ bz N (at_N off N (off N + 1)) voff ph cx c np H ls K ms ∧ (K 61 (off N) = 4294967295 ∧ K 60 (off N) < ms.length ∧ ms.getD (K 60 (off N)) [] = tk_B T n (tk_pos T n i)) ∧ st_pre cs ms ∧ rm_fr F H ∧ H 14 f = F 14 f + 1 ∧ nm_f f F H ∧ nm_g f (off N) G K) ∨ ∃ k p H, nmR F g = some (0, pm_f H k p) ∧ rm_fr F H ∧ H 0 41 < 13999 ∧ sx T n G0 c0 O k p N B K) := by
  have hM1 := hM.1
  have hiM := hr.1.2.2.1
  obtain ⟨⟨n1, n2, n3⟩, ⟨n4, n5⟩, n6, ⟨n7, n8⟩, ⟨n9, n10⟩, n11, n12⟩ := nm_n hb hnp hf
  have h57 : G 57 4 = tk_ty T n (tk_pos T n i) := hc.1.2.1.1
  have hw2 : F 0 41 < 13999 := by rw [hr.2.1.2.1]; omega
  by_cases q1 : tk_k T n i = 1
  · obtain ⟨sn, v1, v2, v3⟩ := hc.1.2.2.2.2.1 (Or.inl q1)
    have hsl : cs.length ≤ c0.length + i + 1 := hc.1.2.2.2.2.2.1.2.2.1
    have hd : nmR F g = if F 14 f < 50 then (dk_212 (wq_up F 14 f (F 14 f + 1))).bind fun y59 => if y59.1 = 0 then some (0, y59.2) else g (F 14 f) y59.2 else some (0, pm_f F 3 (tk_pos T n i)) := by
      unfold nmR
      rw [od_g1 (pm_b hM hr.1), if_pos ((pm_kind hr.1).trans q1), pm_here hM hr.1, od_bS]
      dsimp only
      rw [dkS_219 (f := f) (by omega) n10 (by omega) (by omega) hr.1.1]
      by_cases q : F 14 f < 50
      · rw [if_pos q, if_pos q, od_bS]
        dsimp only
        rw [if_neg (by omega)]
      · rw [if_neg q, if_neg q, od_bS]
        dsimp only
        rw [if_pos (by decide)]
    have e1 : dk_124 G = if F 14 f < 50 then some (0, hd_up G f (off N) sn) else (dk_109 G 3).bind fun y7 => some (0, y7.2) := by
      unfold dk_124
      rw [if_pos (h57.trans (tk_ty_kind.1.mpr q1)), v1, tb_l2i (by omega), dkS_166 (f := f) (a := off N) (by omega) n4 n5 n6 n12 n11 n8, n7]
      by_cases q : G 19 f < 50
      · rw [if_pos q, if_pos q, od_bS]
        dsimp only
        rw [if_neg (by decide)]
      · rw [if_neg q, if_neg q, od_bS]
        dsimp only
        rw [if_pos rfl]
    rw [e1]
    by_cases q : F 14 f < 50
    · rw [if_pos q] at hd
      rw [if_pos q, od_bS]
      dsimp only
      have hr1 : ry T n M i ls t w nw np W L P (wq_up F 14 f (F 14 f + 1)) := ry_up hr (by unfold ry_n; omega)
      have hc1 : cy T n G0 c0 O i cs s ns np N Q (hd_up G f (off N) sn) := cy_up (cy_up (cy_up (cy_up hc (by unfold cy_n; omega)) (by unfold cy_n; omega)) (by unfold cy_n; omega)) (by unfold cy_n; omega)
      have hb1 := bz_hide hb v2 (by rw [hf]; omega)
      rw [hf] at hb1
      have xg1 : nm_g f (off N) G (hd_up G f (off N) sn) := fun d j q1 q2 q3 q4 q5 => hd_cell q3 (by omega) q5
      have k1 : hd_up G f (off N) sn 61 (off N) = 4294967295 := by
        unfold hd_up
        rw [wq_up_cell (by decide), wq_up_same]
      have k2 : hd_up G f (off N) sn 60 (off N) = sn := by
        unfold hd_up
        rw [wq_up_cell (by decide), wq_up_cell (by decide), wq_up_same]
      have x1 : nm_f f F (wq_up F 14 f (F 14 f + 1)) := fun d j _ b => wq_up_ne b
      have y1 : wq_up F 14 f (F 14 f + 1) 14 f = F 14 f + 1 := wq_up_same _ _ _ _
      have ff1 : rm_fr F (wq_up F 14 f (F 14 f + 1)) := rm_fr_up (rm_fr_refl _) (by decide) (fun z => absurd z (by decide))
      have w1 : wq_up F 14 f (F 14 f + 1) 0 41 = w := hr1.2.1.2.1
      generalize wq_up F 14 f (F 14 f + 1) = F1 at *
      generalize hd_up G f (off N) sn = G1 at *
      refine wok_m (bt_77 (B := B) hM hr1 hc1 hb1 (by omega) (by omega) (by omega) hc0 hO hs hns hnp hQ) fun r K h => ?_
      rcases h with ⟨iM, e, ms, h1, h2, h3, h4⟩ | ⟨e, hx⟩
      · rw [e, od_bS] at hd
        dsimp only at hd
        rw [if_neg (by decide)] at hd
        have k60 : K 60 (off N) = sn := (h3 60 _ (by omega) (by omega) (by omega)).trans k2
        refine Or.inl ⟨ms, wq_up F1 0 25 (i + 1), ⟨q1, q, iM⟩, hd, ry_nx hr1 iM, h1, bz_fu h2 (by omega), ⟨(h3 61 _ (by omega) (by omega) (by omega)).trans k1, ?_, ?_⟩, h4, rm_fr_up ff1 (by decide) (by decide), (wq_up_cell (by decide)).trans y1, fun d j a b => (wq_up_cell a).trans (x1 d j a b), nm_g_t xg1 (nm_g_fr h3) (Nat.le_refl _)⟩
        · rw [k60]
          exact Nat.lt_of_lt_of_le v2 h4.1
        · rw [k60, h4.2 _ v2]
          exact v3
      · rw [e, od_bS] at hd
        dsimp only at hd
        rw [if_pos rfl] at hd
        exact Or.inr ⟨_, _, F1, hd, ff1, by omega, hx⟩
    · rw [if_neg q] at hd
      rw [if_neg q]
      refine wok_b (A := fun _ K => sx T n G0 c0 O 3 (tk_pos T n i) N B K) (wok_b (bt_f3 hM hr hc hb hs hns hnp hQ).2 fun r K h => wok_r h) fun r K hx => ?_
      dsimp only
      exact wok_m (sx_77 hx) fun r K h => Or.inr ⟨_, _, F, hd, rm_fr_refl _, hw2, h⟩
  · obtain ⟨a1, a2⟩ := bt_wr (B := B) hM hr hc hb hs hns hnp hQ
    have hd : nmR F g = some (0, pm_f F (tk_wr T n i) (tk_pos T n i)) := by
      unfold nmR
      rw [od_g1 (pm_b hM hr.1), if_neg (fun z => q1 ((pm_kind hr.1).symm.trans z)), a1, od_bS]
    refine wok_b (A := fun _ K => sx T n G0 c0 O (tk_wr T n i) (tk_pos T n i) N B K) ?_ fun r K hx => ?_
    · unfold dk_124
      exact wok_f (fun z => q1 (tk_ty_kind.1.mp (h57.symm.trans z))) (wok_b a2 fun r K h => wok_r h)
    · dsimp only
      exact wok_m (sx_77 hx) fun r K h => Or.inr ⟨_, _, F, hd, rm_fr_refl _, hw2, h⟩
/-- v names read, at the tokens i0, i0 + 2, ..: hidden -/
def nq (T : Nat → Nat) (n N : Nat) (off voff ph : Nat → Nat) (cx : Nat → List Nat) (c : List Nat) (np i0 v : Nat) (F : wq_F) (ls : List (List Nat)) (G : wq_F) (cs : List (List Nat)) : Prop := bz N (at_N off N (off N + v)) voff ph cx c np F ls G cs ∧ (∀ x, off N ≤ x → x < off N + v → G 61 x = 4294967295) ∧ ∀ j, j < v → tk_k T n (i0 + 2 * j) = 1 ∧ G 60 (off N + j) < cs.length ∧ cs.getD (G 60 (off N + j)) [] = tk_B T n (tk_pos T n (i0 + 2 * j))
theorem nq_1 {i0 v : Nat} {F' G' H K : wq_F} {cs' ms : List (List Nat)} (h : nq T n N off voff ph cx c np i0 v F' ls G' cs') (hb : bz N (at_N (at_N off N (off N + v)) N (off N + v + 1)) voff ph cx c np H ls K ms) (hp : st_pre cs' ms) (hx : nm_g f (off N + v) G' K) (hk : tk_k T n (i0 + 2 * v) = 1) (hn : K 61 (off N + v) = 4294967295 ∧ K 60 (off N + v) < ms.length ∧ ms.getD (K 60 (off N + v)) [] = tk_B T n (tk_pos T n (i0 + 2 * v))) : nq T n N off voff ph cx c np i0 (v + 1) H ls K ms := by
  rw [at_N_2] at hb
  obtain ⟨_, h2, h3⟩ := h
  refine ⟨hb, fun x a b => ?_, fun j hj => ?_⟩
  · by_cases z : x = off N + v
    · rw [z]
      exact hn.1
    · rw [hx 61 x (by omega) (by omega) (by omega) (by omega) (by omega)]
      exact h2 x a (by omega)
  · by_cases z : j = v
    · rw [z]
      exact ⟨hk, hn.2⟩
    · obtain ⟨a1, a2, a3⟩ := h3 j (by omega)
      rw [hx 60 (off N + j) (by omega) (by omega) (by omega) (by omega) (by omega)]
      exact ⟨a1, Nat.lt_of_lt_of_le a2 hp.1, by rw [hp.2 _ a2]; exact a3⟩
theorem sx_125b {g x e p : Nat} (hx : sx T n G0 c0 O e p N B G) : wok (dk_125_2 nn (g + 1) G x) (fun _ K => sx T n G0 c0 O e p N B K) := by
  show wok (dk_125_2b nn (dk_125_2 nn g) G x) _
  unfold dk_125_2b
  exact wok_i (fun _ => wok_r hx) (fun _ => wok_f (sx_ne hx (by decide)) (wok_r hx))
/-- the names behind the first -/
theorem nm_list {E : Nat → wq_F → Nat → Option (Nat × wq_F)} {FIN : wq_F → Nat → Option (Nat × wq_F)} {i0 v0 : Nat} (hE0 : ∀ g F v, dk_36 F 44 = some (0, F) → E (g + 1) F v = FIN F v) (hE1 : ∀ g F v, v ≤ 50 → dk_36 F 44 = some (1, F) → E (g + 1) F v = (dk_212 F).bind fun y43 => if y43.1 = 0 then some (0, y43.2) else nmR y43.2 fun _ F' => E g F' (v + 1)) (hM : tk_M T n M) (hn : 10000 < nn) (hc0 : c0.length ≤ 1400) (hO : O ≤ 20000) (hs : s ≤ B) (hns : ns ≤ 10000) (hnp : np ≤ 50) (hQ : Q.length ≤ 440) (hw : w < 13990) : ∀ (m v x g g' i : Nat) (cs : List (List Nat)) (F G : wq_F), v + m = 51 → x ≤ v → m < g → m < g' → i + 1 = i0 + 2 * v → ry T n M i ls t w nw np W L P F → cy T n G0 c0 O i cs s ns np N Q G → nq T n N off voff ph cx c np i0 v F ls G cs → G 62 (N - 1) = f → F 14 f = v0 + v → wok (dk_125_2 nn g G x) (fun _ K => (∃ i' v' ms H, E g' F v = FIN H v' ∧ ry T n M i' ls t w nw np W L P H ∧ cy T n G0 c0 O i' ms s ns np N Q K ∧ nq T n N off voff ph cx c np i0 v' H ls K ms ∧ H 14 f = v0 + v' ∧ (st_pre cs ms ∧ i' + 1 = i0 + 2 * v' ∧ v ≤ v' ∧ rm_fr F H) ∧ nm_f f F H ∧ nm_g f (off N) G K) ∨ ∃ k p H, E g' F v = some (0, pm_f H k p) ∧ rm_fr F H ∧ H 0 41 < 13999 ∧ sx T n G0 c0 O k p N B K) := by
  have hM1 := hM.1
  intro m
  induction m with
  | zero =>
    intro v x g g' i cs F G hv _ _ _ _ hr hc hp hf h14
    obtain ⟨_, _, _, ⟨n7, n8⟩, _⟩ := nm_n hp.1 hnp hf
    omega
  | succ m ih =>
    intro v x g g' i cs F G hv hx hg1 hg2 hi hr hc hp hf h14
    obtain ⟨g, rfl⟩ : ∃ a, g = a + 2 := ⟨g - 2, by omega⟩
    obtain ⟨g', rfl⟩ : ∃ a, g' = a + 1 := ⟨g' - 1, by omega⟩
    obtain ⟨_, ⟨_, n5⟩, _, ⟨n7, n8⟩, _⟩ := nm_n hp.1 hnp hf
    have hiM := hr.1.2.2.1
    have h57 : G 57 4 = tk_ty T n (tk_pos T n i) := hc.1.2.1.1
    have hw1 : F 0 41 = w := hr.2.1.2.1
    show wok (dk_125_2b nn (dk_125_2 nn (g + 1)) G x) _
    unfold dk_125_2b
    refine wok_f (fun z => by have := (wd_slt (by decide) (by omega)).mp z; omega) ?_
    by_cases q : tk_k T n i = 5 ∧ tk_V T n (tk_pos T n i) = 44
    · have hd := hE1 g' F v (by omega) (by rw [pm_isSign hM hr.1 (by decide), if_pos q])
      refine wok_t (h57.trans ((tk_ty_sign (c := 44) (by decide)).mpr q)) ?_
      refine wok_b (bt_77 (B := B) hM hr hc hp.1 (by omega) (by omega) (by omega) hc0 hO hs hns hnp hQ) fun r1 K1 h1 => ?_
      dsimp only
      rcases h1 with ⟨iM, e1, ms1, c1, b1, f1, s1⟩ | ⟨e1, hx'⟩
      rotate_left
      · rw [e1, od_bS] at hd
        dsimp only at hd
        rw [if_pos rfl] at hd
        refine wok_b (sx_124 hx') fun r K h => ?_
        refine wok_b (sx_77 h) fun r K h => ?_
        refine wok_l ?_
        exact wok_m (sx_125b h) fun r K h => Or.inr ⟨_, _, F, hd, rm_fr_refl _, by omega, h⟩
      rw [e1, od_bS] at hd
      dsimp only at hd
      rw [if_neg (by decide)] at hd
      have r1' := ry_nx hr iM
      have b1' : bz N (at_N off N (off N + v)) voff ph cx c np (wq_up F 0 25 (i + 1)) ls K1 ms1 := bz_fu b1 (by omega)
      have ff1 : rm_fr F (wq_up F 0 25 (i + 1)) := rm_fr_up (rm_fr_refl _) (by decide) (by decide)
      have xf1 : nm_f f F (wq_up F 0 25 (i + 1)) := fun d j a _ => wq_up_cell a
      have y14 : wq_up F 0 25 (i + 1) 14 f = v0 + v := (wq_up_cell (by decide)).trans h14
      have k62 : K1 62 (N - 1) = f := (f1 62 _ (by omega) (by omega) (by omega)).trans hf
      have p1 : nq T n N off voff ph cx c np i0 v (wq_up F 0 25 (i + 1)) ls K1 ms1 := ⟨b1', fun x a b => (f1 61 x (by omega) (by omega) (by omega)).trans (hp.2.1 x a b), fun j hj => by
        obtain ⟨a1, a2, a3⟩ := hp.2.2 j hj
        rw [f1 60 (off N + j) (by omega) (by omega) (by omega)]
        exact ⟨a1, Nat.lt_of_lt_of_le a2 s1.1, by rw [s1.2 _ a2]; exact a3⟩⟩
      generalize wq_up F 0 25 (i + 1) = F1 at *
      refine wok_bb (nm_any (g := fun _ F' => E g' F' (v + 1)) (B := B) hM hn hc0 hO r1' c1 b1' hs hns hnp hQ hw k62) fun r2 K2 h2 => ?_
      refine wok_l ?_
      rw [Nat.mod_eq_of_lt (show x + 1 < 4294967296 by omega)]
      dsimp only
      rcases h2 with ⟨ms2, H2, ⟨a1, a2, a3⟩, e2, r2', c2, b2, n2, s2, ff2, y2, xf2, xg2⟩ | ⟨k, p, H, e2, ff2, w2, hx'⟩
      rotate_left
      · rw [e2] at hd
        exact wok_m (sx_125b hx') fun r K h => Or.inr ⟨k, p, H, hd, rm_fr_trans ff1 ff2, w2, h⟩
      rw [e2] at hd
      rw [at_N_is] at b2 n2 xg2
      rw [show i + 1 = i0 + 2 * v by omega] at a1 n2
      have p2 : nq T n N off voff ph cx c np i0 (v + 1) H2 ls K2 ms2 := nq_1 p1 b2 s2 xg2 a1 n2
      have k622 : K2 62 (N - 1) = f := (xg2 62 _ (by omega) (by omega) (by omega) (by omega) (by omega)).trans k62
      refine wok_m (ih (v + 1) (x + 1) (g + 1) g' (i + 1 + 1) ms2 H2 K2 (by omega) (by omega) (by omega) (by omega) (by omega) r2' c2 p2 k622 (by omega)) fun r K h => ?_
      rcases h with ⟨i', v', ms, H, e3, r3, c3, p3, y3, ⟨s3, i3, v3, ff3⟩, xf3, xg3⟩ | ⟨k, p, H, e3, ff3, w3, hx'⟩
      · exact Or.inl ⟨i', v', ms, H, hd.trans e3, r3, c3, p3, y3, ⟨st_pre_trans s1 (st_pre_trans s2 s3), i3, by omega, rm_fr_trans ff1 (rm_fr_trans ff2 ff3)⟩, nm_f_t xf1 (nm_f_t xf2 xf3), nm_g_t (nm_g_fr f1) (nm_g_t (fun d j q1 q2 q3 q4 q5 => xg2 d j q1 q2 q3 (fun z => q4 ⟨z.1, by omega⟩) q5) xg3 (Nat.le_refl _)) (Nat.le_refl _)⟩
      · exact Or.inr ⟨k, p, H, hd.trans e3, rm_fr_trans ff1 (rm_fr_trans ff2 ff3), w3, hx'⟩
    · have hd := hE0 g' F v (by rw [pm_isSign hM hr.1 (by decide), if_neg q])
      refine wok_f (fun z => q ((tk_ty_sign (c := 44) (by decide)).mp (h57.symm.trans z))) ?_
      exact wok_r (Or.inl ⟨i, v, cs, F, hd, hr, hc, hp, h14, ⟨st_pre_refl _, hi, Nat.le_refl _, rm_fr_refl _⟩, fun _ _ _ _ => rfl, fun _ _ _ _ _ _ _ => rfl⟩)
end
