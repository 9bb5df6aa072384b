/-! ===== 99r: an expression on both sides: what is to be shown; constants (wip/whole2/law99r.py) ===== -/
/-- the functions that are open -/
def lvl (N : Nat) (B : wq_F) (g : Nat) : Prop := ∃ l, l < N ∧ B 62 l = g
/-- how far the numbers may have come at token i -/
def bnd (i w s nw ns np t h : Nat) (W : List (Nat × Nat × Nat × Nat)) (L : List (Nat × Nat)) (P Q : List (Nat × Nat × Nat)) (N : Nat) : Prop := w ≤ 6 * i + 40 ∧ s ≤ 4 * i + 40 ∧ nw ≤ i ∧ ns ≤ i ∧ np ≤ 50 ∧ t ≤ 20 ∧ h ≤ 2 * i + 40 ∧ W.length ≤ 20 * t + 20 ∧ (L.length ≤ t ∧ ∀ e ∈ L, e.2 < N) ∧ P.length ≤ 20 * t ∧ Q.length ≤ 20 * t ∧ N ≤ t + 1
/-- the open functions, the chains of breaks, the slots of names as they were -/
def lk (N : Nat) (off : Nat → Nat) (B K : wq_F) : Prop := (∀ l, l < N → K 62 l = B 62 l ∧ K 65 l = B 65 l) ∧ ∀ i, i < off N → ∀ e, e = 60 ∨ e = 61 → K e i = B e i
theorem lk_t {N : Nat} {off : Nat → Nat} {A B C : wq_F} (h : lk N off A B) (g : lk N off B C) : lk N off A C := ⟨fun l hl => ⟨(g.1 l hl).1.trans (h.1 l hl).1, (g.1 l hl).2.trans (h.1 l hl).2⟩, fun i hi e he => (g.2 i hi e he).trans (h.2 i hi e he)⟩
/-- from a state to a later one, where both are at the same -/
def eg (T : Nat → Nat) (n M : Nat) (G0 : wq_F) (c0 : List (List Nat)) (O N : Nat) (off voff ph : Nat → Nat) (cx : Nat → List Nat) (cb : List Nat) (A B : wq_F) (i : Nat) (ls cs : List (List Nat)) (w s nw ns np : Nat) (c : List Nat) (t : Nat) (W : List (Nat × Nat × Nat × Nat)) (L : List (Nat × Nat)) (P Q : List (Nat × Nat × Nat)) (H K : wq_F) (i' : Nat) (ls' cs' : List (List Nat)) (w' s' nw' ns' np' : Nat) (c' : List Nat) : Prop :=
  ry T n M i' ls' t w' nw' np' W L P H ∧ cy T n G0 c0 O i' cs' s' ns' np' N Q K ∧ bz N off voff ph cx c' np' H ls' K cs' ∧ pj ls' cs' (lvl N B) (B 62 (N - 1)) cb A B w s nw ns np c H K w' s' nw' ns' np' c' [] [] ∧ (st_sf ls ls' ∧ st_pre cs cs' ∧ lk N off B K) ∧ (i ≤ i' ∧ np' ≤ 50)
theorem lvl_eq {N : Nat} {B K : wq_F} (h : ∀ l, l < N → K 62 l = B 62 l) : lvl N K = lvl N B := funext fun g => propext ⟨fun ⟨l, a, b⟩ => ⟨l, a, (h l a).symm.trans b⟩, fun ⟨l, a, b⟩ => ⟨l, a, (h l a).trans b⟩⟩
/-- one after the other -/
theorem eg_t {T : Nat → Nat} {n M O N : Nat} {G0 : wq_F} {c0 : List (List Nat)} {off voff ph : Nat → Nat} {cx : Nat → List Nat} {cb : List Nat} {A B H K H' K' : wq_F} {i i' i'' w s nw ns np w' s' nw' ns' np' w'' s'' nw'' ns'' np'' t t' : Nat} {ls cs ls' cs' ls'' cs'' : List (List Nat)} {c c' c'' : List Nat} {W W' : List (Nat × Nat × Nat × Nat)} {L L' : List (Nat × Nat)} {P P' Q Q' : List (Nat × Nat × Nat)} (h : eg T n M G0 c0 O N off voff ph cx cb A B i ls cs w s nw ns np c t W L P Q H K i' ls' cs' w' s' nw' ns' np' c') (g : eg T n M G0 c0 O N off voff ph cx cb H K i' ls' cs' w' s' nw' ns' np' c' t' W' L' P' Q' H' K' i'' ls'' cs'' w'' s'' nw'' ns'' np'' c'') (h62 : ∀ l, l < N → B 62 l < np) : eg T n M G0 c0 O N off voff ph cx cb A B i ls cs w s nw ns np c t' W' L' P' Q' H' K' i'' ls'' cs'' w'' s'' nw'' ns'' np'' c'' := by
  obtain ⟨a1, a2, a3, a4, ⟨a5, a6, a7⟩, a8, a9⟩ := h
  obtain ⟨b1, b2, b3, b4, ⟨b5, b6, b7⟩, b8, b9⟩ := g
  have hN := a3.1.1.1
  rw [lvl_eq (fun l hl => (a7.1 l hl).1), (a7.1 (N - 1) (by omega)).1] at b4
  exact ⟨b1, b2, b3, pj_t a4 b4 b5.1 b6 (fun g hg ⟨l, l1, l2⟩ => by have := h62 l l1; omega) (h62 (N - 1) (by omega)), ⟨st_sf_trans a5 b5, st_pre_trans a6 b6, lk_t a7 b7⟩, Nat.le_trans a8 b8, b9⟩
/-- nothing written, the states as they are -/
theorem eg_n {T : Nat → Nat} {n M O N : Nat} {G0 : wq_F} {c0 : List (List Nat)} {off voff ph : Nat → Nat} {cx : Nat → List Nat} {cb : List Nat} {A B H K : wq_F} {i i' w s nw ns np t : Nat} {ls cs ms : List (List Nat)} {c : List Nat} {W : List (Nat × Nat × Nat × Nat)} {L : List (Nat × Nat)} {P Q : List (Nat × Nat × Nat)} (hr : ry T n M i' ls t w nw np W L P H) (hc : cy T n G0 c0 O i' ms s ns np N Q K) (hb : bz N off voff ph cx c np H ls K ms) (hA : ∀ d j, (12 ≤ d ∧ d ≤ 19) ∨ (20 ≤ d ∧ d ≤ 23 ∧ j < w) ∨ (d = 24 ∧ j < nw) → H d j = A d j) (hB : qf s ns B K) (hp : st_pre cs ms) (hi : i ≤ i') (hnp : np ≤ 50) : eg T n M G0 c0 O N off voff ph cx cb A B i ls cs w s nw ns np c t W L P Q H K i' ls ms w s nw ns np c := ⟨hr, hc, hb, pj_n hA (fun d j h => hB d j (by omega)), ⟨st_sf_refl _, hp, ⟨fun l _ => ⟨hB 62 l (by omega), hB 65 l (by omega)⟩, fun l _ e6 h6 => hB e6 l (by omega)⟩⟩, hi, hnp⟩
/-- how much is written for so many tokens -/
def rts (i w s nw ns i' w' s' nw' ns' : Nat) : Prop := i < i' ∧ w' + 6 * i ≤ w + 6 * i' ∧ s' + 4 * i ≤ s + 4 * i' ∧ nw' + i ≤ nw + i' ∧ ns' + i ≤ ns + i'
/-- the strengths that the right side of an operator must be above, class and reference -/
def lim (a b : Nat) : Prop := (a = b ∧ b ≤ 7) ∨ (a = 7 ∧ b = 8) ∨ (a = 9 ∧ b = 10) ∨ (a = 10 ∧ b = 11) ∨ (a = 11 ∧ b = 12)
theorem tb_sg_le (x : Nat) : tb_sg x ≤ 10 := by
  refine Nat.le_of_lt_succ ?_
  unfold tb_sg
  repeat (refine wd_ite (by decide) ?_)
  decide
theorem lim_s {a b x : Nat} (h : lim a b) : a < tb_sg x ↔ b < tb_sr x := by
  have h1 := tb_sg_le x
  unfold tb_sr lim at *
  by_cases q : 8 ≤ tb_sg x
  · rw [if_pos q]
    omega
  · rw [if_neg q]
    omega
/-- how many instructions a stopped class may have -/
def zz (D : Nat) : Nat := 6200 + 110 * (22 - D)
/-- an open value at the end: all of it may be taken instead of one -/
def opn (cb : List Nat) (N : Nat) (A B : wq_F) (w s nw ns np : Nat) (c : List Nat) (H K : wq_F) (ls' cs' : List (List Nat)) (w' s' nw' ns' np' : Nat) : Prop := H 0 64 + 1 = w' ∧ w < w' ∧ s < s' ∧ pj ls' cs' (lvl N B) (B 62 (N - 1)) cb A B w s nw ns np c (wq_up H 21 (w' - 1) 4294967295) (wq_up K 14 (s' - 1) 4294967295) w' s' nw' ns' np' (2 :: c) [] []
/-- an expression at depth D -/
def E_ok (nn : Nat) (T : Nat → Nat) (n M : Nat) (G0 : wq_F) (c0 : List (List Nat)) (O D : Nat) : Prop := ∀ (k lc lr i t w s nw ns np N : Nat) (off voff ph : Nat → Nat) (cx : Nat → List Nat) (c cb : List Nat) (W : List (Nat × Nat × Nat × Nat)) (L : List (Nat × Nat)) (P Q : List (Nat × Nat × Nat)) (ls cs : List (List Nat)) (F G : wq_F),
  20 * (22 - D) + 20 ≤ k → lim lc lr → t + 1 = D → ry T n M i ls t w nw np ((3, lr, 0, 0) :: W) L P F → cy T n G0 c0 O i cs s ns np N Q G → bz N off voff ph cx c np F ls G cs → bnd i w s nw ns np t (hg c) W L P Q N →
  wok (dk_R nn k 148 [lc, D] G) (fun r K => (∃ i' w' s' nw' ns' np' ls' cs' H, (rm_to nn F H ∧ rm_fr F H) ∧ eg T n M G0 c0 O N off voff ph cx cb F G i ls cs w s nw ns np c t W L P Q H K i' ls' cs' w' s' nw' ns' np' (0 :: c) ∧ rts i w s nw ns i' w' s' nw' ns' ∧ ((r = 0 ∧ H 0 64 = 4294967295) ∨ (r = 1 ∧ opn cb N F G w s nw ns np c H K ls' cs' w' s' nw' ns' np'))) ∨ ∃ e p, rm_out nn e p F ∧ sx T n G0 c0 O e p N (zz D + 70) K)
section
variable {nn : Nat} {T : Nat → Nat} {n M O : Nat} {G0 : wq_F} {c0 : List (List Nat)} {i t w s nw ns np N : Nat} {off voff ph : Nat → Nat} {cx : Nat → List Nat} {c cb : List Nat} {W : List (Nat × Nat × Nat × Nat)} {L : List (Nat × Nat)} {P Q : List (Nat × Nat × Nat)} {ls cs : List (List Nat)} {F G : wq_F}

/-- an operand alone, from within the reference's wait -/
def O_ok (nn : Nat) (T : Nat → Nat) (n M : Nat) (G0 : wq_F) (c0 : List (List Nat)) (O N : Nat) (off voff ph : Nat → Nat) (cx : Nat → List Nat) (cb : List Nat) (F G : wq_F) (i : Nat) (ls cs : List (List Nat)) (w s nw ns np : Nat) (c : List Nat) (t : Nat) (W : List (Nat × Nat × Nat × Nat)) (L : List (Nat × Nat)) (P Q : List (Nat × Nat × Nat)) (m : Option (Nat × wq_F)) (B r : Nat) (K : wq_F) : Prop :=
  (∃ i' w' s' nw' ns' np' ls' cs' H, rgo nn F m H ∧ eg T n M G0 c0 O N off voff ph cx cb F G i ls cs w s nw ns np c t W L P Q H K i' ls' cs' w' s' nw' ns' np' (0 :: c) ∧ rts i w s nw ns i' w' s' nw' ns' ∧ ((r = 0 ∧ H 0 64 = 4294967295) ∨ (r = 1 ∧ opn cb N F G w s nw ns np c H K ls' cs' w' s' nw' ns' np'))) ∨ ∃ e p, rba nn F m e p ∧ sx T n G0 c0 O e p N B K
def C_ok (nn : Nat) (T : Nat → Nat) (n M : Nat) (G0 : wq_F) (c0 : List (List Nat)) (O N : Nat) (off voff ph : Nat → Nat) (cx : Nat → List Nat) (cb : List Nat) (F G : wq_F) (i : Nat) (ls cs : List (List Nat)) (w s nw ns np : Nat) (c : List Nat) (t : Nat) (W : List (Nat × Nat × Nat × Nat)) (L : List (Nat × Nat)) (P Q : List (Nat × Nat × Nat)) (nw' ns' : Nat) (m : Option (Nat × wq_F)) (r : Nat) (K : wq_F) : Prop :=
  (∃ ms H, rgo nn F m H ∧ eg T n M G0 c0 O N off voff ph cx cb F G i ls cs w s nw ns np c t W L P Q H K (i + 1) ls ms (w + 1) (s + 1) nw' ns' np (0 :: c) ∧ r = 0 ∧ H 0 64 = 4294967295) ∨ ∃ e p, rba nn F m e p ∧ sx T n G0 c0 O e p N 6200 K
theorem C_O {A B : wq_F} {nw' ns' B' r : Nat} {m : Option (Nat × wq_F)} {K : wq_F} (h : C_ok nn T n M G0 c0 O N off voff ph cx cb A B i ls cs w s nw ns np c t W L P Q nw' ns' m r K) (h1 : nw' ≤ nw + 1 ∧ ns' ≤ ns + 1) (hB : 6200 ≤ B') : O_ok nn T n M G0 c0 O N off voff ph cx cb A B i ls cs w s nw ns np c t W L P Q m B' r K := by
  rcases h with ⟨ms, H, g, e, r0, r64⟩ | ⟨e, p, h2, h3⟩
  · exact Or.inl ⟨i + 1, w + 1, s + 1, nw', ns', np, ls, ms, H, g, e, ⟨by omega, by omega, by omega, by omega, by omega⟩, Or.inl ⟨r0, r64⟩⟩
  · exact Or.inr ⟨e, p, h2, sx_le h3 hB⟩
/-- a constant -/
theorem o_const {o a o' a' ln nw0 ns0 : Nat} {A B : wq_F} (hM : tk_M T n M) (hr : ry T n M i ls t w nw np W L P F) (hc : cy T n G0 c0 O i cs s ns np N Q G) (hb : bz N off voff ph cx c np F ls G cs) (hn : 10000 < nn) (hc0 : c0.length ≤ 1400) (hO : O ≤ 20000) (h6 : ¬ tk_k T n i = 6) (h7 : ¬ tk_k T n i = 7) (hw : w ≤ 6 * i + 50) (hs : s ≤ 4 * i + 50) (hns : ns ≤ i + 1) (hnw : nw0 ≤ nw ∧ nw ≤ nw0 + 1 ∧ ns0 ≤ ns ∧ ns ≤ ns0 + 1) (hnp : np ≤ 50) (hh : hg c ≤ 2 * i + 50) (hQ : Q.length ≤ 440)
    (hA : ∀ d j, (12 ≤ d ∧ d ≤ 19) ∨ (20 ≤ d ∧ d ≤ 23 ∧ j < w) ∨ (d = 24 ∧ j < nw0) → F d j = A d j) (hAf : rm_fr A F) (hB : ∀ d j, (17 ≤ d ∧ d ≤ 23) ∨ (12 ≤ d ∧ d ≤ 15 ∧ j < s) ∨ (d = 16 ∧ j < ns0) ∨ d = 62 ∨ d = 65 ∨ d = 61 ∨ d = 60 → G d j = B d j)
    (hf : ∀ (H J : wq_F) (nm : Nat → Nat → Prop), H 20 w = o → H 21 w = a → J 12 s = o' → J 13 s = a' → (∀ k, nw0 ≤ k → k < nw → H 24 k = F 24 k) → (∀ k, ns0 ≤ k → k < ns → J 16 k = G 16 k) → nmr ls cs nm → ∃ k, cs1 H J nm k (B 62 (N - 1)) w s c [(B 62 (N - 1), w + 1, s + 1, 0 :: c)]) :
    wok ((dk_112 G o' a' ln 1).bind fun y => (dk_77 nn y.2).bind fun z => some (0, z.2)) (fun r K => C_ok nn T n M G0 c0 O N off voff ph cx cb A B i ls cs w s nw0 ns0 np c t W L P Q nw ns (dk_237 F o a) r K) := by
  have hM1 := hM.1
  have hi := hr.1.2.2.1
  have hw2 : F 0 41 = w := hr.2.1.2.1
  refine wok_b (cy_p1 (e := 0) hc hb (by omega) (by omega) (by decide)) fun r K1 h1 => ?_
  dsimp only
  obtain ⟨c1, b1, i1, q1, t1⟩ := h1
  have hr1 : ry T n M i ls t (w + 1) nw np W L P (wq_up (pm_em F o a 0 0) 0 64 4294967295) := ry_up (ry_em hr) (by unfold ry_n; omega)
  have b2 : bz N off voff ph cx (0 :: c) np (wq_up (pm_em F o a 0 0) 0 64 4294967295) ls K1 cs := bz_fu (bz_em b1) (by omega)
  have e1 : dk_237 F o a = dk_212 (wq_up (pm_em F o a 0 0) 0 64 4294967295) := by
    unfold dk_237
    rw [dkS_30 (by omega), od_bS]
    dsimp only
    rw [od_upS, od_bI]
  have f1 : rm_fr A (wq_up (pm_em F o a 0 0) 0 64 4294967295) := rm_fr_up (rm_fr_em hAf) (by decide) (by decide)
  have hat := pm_em_at (F := F) (op := o) (a := a) (b := 0) (ln := 0)
  rw [hw2] at hat
  have fm : ∀ d j, ¬ (20 ≤ d ∧ d ≤ 23 ∧ j = w) → ¬ (d = 0 ∧ j = 41) → ¬ (d = 0 ∧ j = 64) → wq_up (pm_em F o a 0 0) 0 64 4294967295 d j = F d j := fun d j h1 h2 h3 => by
    rw [wq_up_ne h3, pm_em_ne (by omega) h2]
  refine wok_b (bt_77 (B := 6200) hM hr1 c1 b2 h6 h7 (by omega) hc0 hO (by omega) (by omega) hnp hQ) fun r K2 h2 => ?_
  dsimp only
  rcases h2 with ⟨iM, e2, ms, c3, b3, f3, p3⟩ | ⟨e2, hx⟩
  · have q3 : qf (s + 1) ns K1 K2 := qf_fr f3
    have q4 : ∀ d j, (17 ≤ d ∧ d ≤ 23) ∨ (12 ≤ d ∧ d ≤ 15 ∧ j < s) ∨ (d = 16 ∧ j < ns0) ∨ d = 62 ∨ d = 65 ∨ d = 61 ∨ d = 60 → K2 d j = B d j := fun d j h => (q3 d j (by omega)).trans ((q1 d j (by omega)).trans (hB d j h))
    have fn : ∀ d j, ¬ (20 ≤ d ∧ d ≤ 23 ∧ j = w) → ¬ d = 0 → wq_up (wq_up (pm_em F o a 0 0) 0 64 4294967295) 0 25 (i + 1) d j = F d j := fun d j h1 h2 => by
      rw [wq_up_cell h2, fm d j h1 (fun z => h2 z.1) (fun z => h2 z.1)]
    refine wok_r (Or.inl ⟨ms, wq_up (wq_up (pm_em F o a 0 0) 0 64 4294967295) 0 25 (i + 1), rgo_i (e1.trans e2) (by decide) ((ry_nx hr1 iM).1.1) (rm_fr_up f1 (by decide) (by decide)), ⟨ry_nx hr1 iM, c3, bz_fu b3 (by omega), ?_, ⟨st_sf_refl _, p3, ⟨fun l hl => ⟨q4 62 l (by omega), q4 65 l (by omega)⟩, fun l hl e6 h6 => q4 e6 l (by omega)⟩⟩, by omega, hnp⟩, rfl, ?_⟩)
    · refine pj_1 ⟨by omega, by omega, by omega, by omega⟩ (fun d j h => (fn d j (by omega) (by omega)).trans (hA d j h)) (fun d j h => q4 d j (by omega)) (fun H J nm ha hb2 hnm => Or.inl ?_)
      refine hf H J nm ?_ ?_ ?_ ?_ (fun k a b => ?_) (fun k a b => ?_) (nmr_up hnm (st_pre_refl _) p3)
      · rw [ha.1 20 w (by decide) (by decide) (by omega) (by omega), wq_up_cell (by decide), wq_up_cell (by decide)]
        exact hat.1
      · rw [ha.1 21 w (by decide) (by decide) (by omega) (by omega), wq_up_cell (by decide), wq_up_cell (by decide)]
        exact hat.2.1
      · rw [hb2.1 12 s (by decide) (by decide) (by omega) (by omega), q3 12 s (by omega)]
        exact i1.1
      · rw [hb2.1 13 s (by decide) (by decide) (by omega) (by omega), q3 13 s (by omega)]
        exact i1.2.1
      · rw [ha.2.1 k a b, fn 24 k (by omega) (by decide)]
      · rw [hb2.2.1 k a b, q3 16 k (by omega), q1 16 k (by omega)]
    · rw [wq_up_at (by decide), wq_up_same]
  · exact wok_r (Or.inr ⟨3, tk_pos T n i, rba_f (e1.trans e2) f1 (by rw [hr1.2.1.2.1]; omega), hx⟩)
end
