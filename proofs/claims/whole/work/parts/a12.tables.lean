/-! ===== a12: tables (wip/whole2/lawa12.py) ===== -/
section
variable {nn : Nat} {T : Nat → Nat} {n M O : Nat} {G0 : wq_F} {c0 : List (List Nat)} {i t w s nw ns np N : Nat} {off voff ph : Nat → Nat} {cx : Nat → List Nat} {c cb : List Nat} {W : List (Nat × Nat × Nat × Nat)} {L : List (Nat × Nat)} {P Q : List (Nat × Nat × Nat)} {ls cs : List (List Nat)} {F G : wq_F}

/-- the fields from the m-th one on -/
theorem tab_loop {D k : Nat} (hM : tk_M T n M) (hE : D ≤ 19 → E_ok nn T n M G0 c0 O (D + 2)) (hk : 20 * (22 - (D + 2)) + 22 ≤ k) (hD : D ≤ 20) (hn : 10000 < nn) (hc0 : c0.length ≤ 1400) (hO : O ≤ 20000) : ∀ (g m it i w s nw ns np : Nat) (ls cs : List (List Nat)) (F G : wq_F), m ≤ 30 → it ≤ m → 31 < g + m → ry T n M i ls D w nw np ((15, it + 1, m, 0) :: W) L P F → cy T n G0 c0 O i cs s ns np N Q G → bz N off voff ph cx (0 :: c) np F ls G cs → bnd i w s nw ns np D (hg (0 :: c)) ((0, 0, 0, 0) :: (0, 0, 0, 0) :: (0, 0, 0, 0) :: W) L P Q N → ((w ≤ 6 * i + 36 ∧ s ≤ 4 * i + 37) ∨ (tk_k T n i = 5 ∧ tk_V T n (tk_pos T n i) = 125)) →
    wok (dk_151_32 (dk_R nn k) nn g G D (hg c) it m) (fun _ K => (∃ i' w' s' nw' ns' np' ls' cs' H, (rm_to nn F H ∧ rm_fr F H) ∧ eg T n M G0 c0 O N off voff ph cx cb F G i ls cs w s nw ns np (0 :: c) D W L P Q H K i' ls' cs' w' s' nw' ns' np' (0 :: c) ∧ (i < i' ∧ w' + 6 * i + 4 ≤ w + 6 * i' ∧ s' + 4 * i + 3 ≤ s + 4 * i' ∧ nw' + i ≤ nw + i' ∧ ns' + i ≤ ns + i') ∧ ((tk_k T n i = 5 ∧ tk_V T n (tk_pos T n i) = 125) → w' ≤ w ∧ s' ≤ s) ∧ H 0 64 = 4294967295) ∨ ∃ e p, rm_out nn e p F ∧ sx T n G0 c0 O e p N (zz D + 38) K) := by
  intro g
  induction g with
  | zero => intro m it i w s nw ns np ls cs F G h1 h2 h3; omega
  | succ g ih =>
    intro m it i w s nw ns np ls cs F G hm hit hgm hr hc hb hB hB2
    have hB0 := hB
    obtain ⟨m1, m2, m3, m4, m5, m6, m7, m8, m9, m10, m11, m12⟩ := hB0
    have m8 : W.length + 3 ≤ 20 * D + 20 := m8
    have h62 := hb.2.2.2.2.2.1
    have hM1 := hM.1
    have hiM := hr.1.2.2.1
    have hN := hb.1.1.1
    have hz : 6310 ≤ zz D ∧ zz D < 9800 ∧ (D ≤ 19 → zz (D + 2) + 220 ≤ zz D) := by unfold zz; omega
    have h57 : G 57 4 = tk_ty T n (tk_pos T n i) := hc.1.2.1.1
    have s125 := tk_ty_sign (T := T) (n := n) (p := tk_pos T n i) (c := 125) (by decide)
    have s91 := tk_ty_sign (T := T) (n := n) (p := tk_pos T n i) (c := 91) (by decide)
    have hhc : hg c ≤ 2 * i + 40 := by rw [hg_0] at m7; omega
    have hp := ry_pop hr
    have hfp : rm_fr F (wq_up F 0 46 W.length) := rm_fr_up (rm_fr_refl _) (by decide) (by decide)
    have hbp := bz_fu (d := 0) (j := 46) (v := W.length) hb (by omega)
    have hxp : ∀ d j, ¬ d = 0 → wq_up F 0 46 W.length d j = F d j := fun d j q => wq_up_cell q
    have hgo := fun H => ry_go (nn := nn) (H := H) hr (by show W.length < 4000; omega)
    have hba := fun k p => ry_ba (nn := nn) (k := k) (p := p) hr (by show W.length < 4000; omega)
    have h33 : dk_32 nn (wq_up F 0 46 W.length) (15, it + 1, m, 0).1 (15, it + 1, m, 0).2.1 (15, it + 1, m, 0).2.2.1 (15, it + 1, m, 0).2.2.2 = dk_249 (wq_up F 0 46 W.length) (it + 1) m := by
      show dk_32 nn (wq_up F 0 46 W.length) 15 (it + 1) m 0 = _
      rw [dk32_15, od_bI]
    generalize dk_32 nn (wq_up F 0 46 W.length) (15, it + 1, m, 0).1 (15, it + 1, m, 0).2.1 (15, it + 1, m, 0).2.2.1 (15, it + 1, m, 0).2.2.2 = mm at *
    generalize wq_up F 0 46 W.length = F1 at *
    show wok (dk_151_32b (dk_R nn k) nn (dk_151_32 (dk_R nn k) nn g) G D (hg c) it m) _
    unfold dk_151_32b
    refine wok_f (fun z => absurd ((wd_slt (by decide) (by omega)).mp z) (by omega)) ?_
    by_cases q125 : tk_k T n i = 5 ∧ tk_V T n (tk_pos T n i) = 125
    · -- the end
      refine wok_t (h57.trans (s125.mpr q125)) ?_
      have hr2 : ry T n M i ls D w nw np W L P (wq_up F1 0 64 4294967295) := ry_up hp (by unfold ry_n; omega)
      have f2 : rm_fr F (wq_up F1 0 64 4294967295) := rm_fr_up hfp (by decide) (by decide)
      have hd := h33.trans (rF_close (pos := it + 1) (m := m) hM hp q125)
      refine wok_b (bt_110 (x := 54) (B := 6200) hM hr2 hc (bz_fu hbp (by omega)) (h57.trans (s125.mpr q125)) (by omega) (by omega) hn hc0 hO (by omega) (by omega) m5 (by omega)) fun r1 K1 h1 => ?_
      dsimp only
      rw [Nat.mod_eq_of_lt (show hg c + 1 < 4294967296 by omega)]
      rcases h1 with ⟨iM, e2, ms, c1, b1, f1, p1⟩ | ⟨e2, hx⟩
      · have hr3 := ry_nx hr2 iM
        have b3 : bz N off voff ph cx (0 :: c) np (wq_up (wq_up F1 0 64 4294967295) 0 25 (i + 1)) ls K1 ms := bz_fu b1 (by omega)
        refine wok_b (cy_162 (d := 0 :: c) c1 b3 hg_0.symm (fun k _ _ h => h) (bz_fr b3)) fun r K hK => ?_
        obtain ⟨k1, k2, k3, k4⟩ := hK
        refine wok_r (Or.inl ⟨i + 1, w, s, nw, ns, np, ls, ms, _, hgo _ (rgo_i (hd.trans e2) (by decide) hr3.1.1 (rm_fr_up f2 (by decide) (by decide))), eg_n hr3 k1 k2 (fun d j q => (wq_up_cell (by omega)).trans ((wq_up_cell (by omega)).trans (hxp d j (by omega)))) (qf_trans (qf_fr f1) k3 (Nat.le_refl _) (Nat.le_refl _)) p1 (Nat.le_succ _) m5, ⟨by omega, by omega, by omega, by omega, by omega⟩, fun _ => ⟨Nat.le_refl _, Nat.le_refl _⟩, ?_⟩)
        rw [wq_up_at (by decide), wq_up_same]
      · refine wok_b (sx_162 hx) fun r K h => ?_
        exact wok_r (Or.inr ⟨_, _, hba _ _ (rba_f (hd.trans e2) f2 (by rw [hr2.2.1.2.1]; omega)), sx_le h (by omega)⟩)
    refine wok_f (fun z => q125 (s125.mp (h57.symm.trans z))) ?_
    have hw36 : w ≤ 6 * i + 36 ∧ s ≤ 4 * i + 37 := hB2.resolve_right q125
    -- the stopped class goes on
    have tl98 : ∀ (e p B : Nat) (K : wq_F), sx T n G0 c0 O e p N B K → B ≤ zz D + 7 → rm_out nn e p F → wok (dk_151_98 (dk_R nn k) nn (dk_151_32 (dk_R nn k) nn g) K D (hg c) it m) (fun _ K => (∃ i' w' s' nw' ns' np' ls' cs' H, (rm_to nn F H ∧ rm_fr F H) ∧ eg T n M G0 c0 O N off voff ph cx cb F G i ls cs w s nw ns np (0 :: c) D W L P Q H K i' ls' cs' w' s' nw' ns' np' (0 :: c) ∧ (i < i' ∧ w' + 6 * i + 4 ≤ w + 6 * i' ∧ s' + 4 * i + 3 ≤ s + 4 * i' ∧ nw' + i ≤ nw + i' ∧ ns' + i ≤ ns + i') ∧ ((tk_k T n i = 5 ∧ tk_V T n (tk_pos T n i) = 125) → w' ≤ w ∧ s' ≤ s) ∧ H 0 64 = 4294967295) ∨ ∃ e p, rm_out nn e p F ∧ sx T n G0 c0 O e p N (zz D + 38) K) := fun e p B K h hB ho => by
      refine sx_98 h (by omega) (by omega) fun K h2 => ?_
      rw [Nat.mod_eq_of_lt (show m + 1 < 4294967296 by omega)]
      exact wok_m (sx_32 (by omega) g _ (m + 1) (B + 1) K h2 (by omega) (by omega) (by omega)) fun r K h => Or.inr ⟨e, p, ho, sx_le h (by omega)⟩
    have tlk : ∀ (e p B : Nat) (K : wq_F), sx T n G0 c0 O e p N B K → B ≤ zz D + 7 → rm_out nn e p F → wok (dk_151_32 (dk_R nn k) nn g K D (hg c) it (m + 1)) (fun _ K => (∃ i' w' s' nw' ns' np' ls' cs' H, (rm_to nn F H ∧ rm_fr F H) ∧ eg T n M G0 c0 O N off voff ph cx cb F G i ls cs w s nw ns np (0 :: c) D W L P Q H K i' ls' cs' w' s' nw' ns' np' (0 :: c) ∧ (i < i' ∧ w' + 6 * i + 4 ≤ w + 6 * i' ∧ s' + 4 * i + 3 ≤ s + 4 * i' ∧ nw' + i ≤ nw + i' ∧ ns' + i ≤ ns + i') ∧ ((tk_k T n i = 5 ∧ tk_V T n (tk_pos T n i) = 125) → w' ≤ w ∧ s' ≤ s) ∧ H 0 64 = 4294967295) ∨ ∃ e p, rm_out nn e p F ∧ sx T n G0 c0 O e p N (zz D + 38) K) := fun e p B K h hB ho => wok_m (sx_32 (by omega) g _ (m + 1) B K h (by omega) (by omega) (by omega)) fun r K h => Or.inr ⟨e, p, ho, sx_le h (by omega)⟩
    -- one field stands: on to the next
    have cont : ∀ (it' i1 w1 s1 nw1 ns1 np1 : Nat) (ls1 cs1 : List (List Nat)) (H1 K1 : wq_F), it' ≤ m + 1 → (rm_to nn F H1 ∧ rm_fr F H1) → eg T n M G0 c0 O N off voff ph cx cb F G i ls cs w s nw ns np (0 :: c) D ((15, it' + 1, m + 1, 0) :: W) L P Q H1 K1 i1 ls1 cs1 w1 s1 nw1 ns1 np1 (0 :: c) → m ≤ 29 → (i < i1 ∧ w1 + 6 * i ≤ w + 6 * i1 + 2 ∧ s1 + 4 * i ≤ s + 4 * i1 + 1 ∧ nw1 + i ≤ nw + i1 ∧ ns1 + i ≤ ns + i1) → ((w1 + 6 * i + 4 ≤ w + 6 * i1 ∧ s1 + 4 * i + 3 ≤ s + 4 * i1) ∨ (tk_k T n i1 = 5 ∧ tk_V T n (tk_pos T n i1) = 125)) → wok (dk_151_32 (dk_R nn k) nn g K1 D (hg c) it' (m + 1)) (fun _ K => (∃ i' w' s' nw' ns' np' ls' cs' H, (rm_to nn F H ∧ rm_fr F H) ∧ eg T n M G0 c0 O N off voff ph cx cb F G i ls cs w s nw ns np (0 :: c) D W L P Q H K i' ls' cs' w' s' nw' ns' np' (0 :: c) ∧ (i < i' ∧ w' + 6 * i + 4 ≤ w + 6 * i' ∧ s' + 4 * i + 3 ≤ s + 4 * i' ∧ nw' + i ≤ nw + i' ∧ ns' + i ≤ ns + i') ∧ ((tk_k T n i = 5 ∧ tk_V T n (tk_pos T n i) = 125) → w' ≤ w ∧ s' ≤ s) ∧ H 0 64 = 4294967295) ∨ ∃ e p, rm_out nn e p F ∧ sx T n G0 c0 O e p N (zz D + 38) K) := fun it' i1 w1 s1 nw1 ns1 np1 ls1 cs1 H1 K1 hi' g1 e1 hm29 ⟨u1, u2, u3, u4, u5⟩ hor => by
      have hi1 := e1.1.1.2.2.1
      refine wok_m (ih (m + 1) it' i1 w1 s1 nw1 ns1 np1 ls1 cs1 H1 K1 (by omega) hi' (by omega) e1.1 e1.2.1 e1.2.2.1 ⟨by omega, by omega, by omega, by omega, e1.2.2.2.2.2.2, m6, by rw [hg_0]; omega, m8, m9, m10, m11, m12⟩ ?_) fun r K h => ?_
      · rcases hor with z | z
        · exact Or.inl ⟨by omega, by omega⟩
        · exact Or.inr z
      · rcases h with ⟨i', w', s', nw', ns', np', ls', cs', H, g2, e2, ⟨v1, v2, v3, v4, v5⟩, v6, v7⟩ | ⟨e, p, ho, hx⟩
        · refine Or.inl ⟨i', w', s', nw', ns', np', ls', cs', H, ⟨rm_trans g1.1 g2.1, rm_fr_trans g1.2 g2.2⟩, eg_t e1 e2 h62, ?_, fun z => absurd z q125, v7⟩
          rcases hor with z | z
          · exact ⟨by omega, by omega, by omega, by omega, by omega⟩
          · have := v6 z
            exact ⟨by omega, by omega, by omega, by omega, by omega⟩
        · exact Or.inr ⟨e, p, rm_to_out g1.1 g1.2 ho, hx⟩
    -- the tests before a field
    have s78 : ∀ v, mm = dk_249_42 F1 (it + 1) m v → (m ≤ 29 → D ≤ 19 → wok (dk_151_98 (dk_R nn k) nn (dk_151_32 (dk_R nn k) nn g) G D (hg c) it m) (fun _ K => (∃ i' w' s' nw' ns' np' ls' cs' H, (rm_to nn F H ∧ rm_fr F H) ∧ eg T n M G0 c0 O N off voff ph cx cb F G i ls cs w s nw ns np (0 :: c) D W L P Q H K i' ls' cs' w' s' nw' ns' np' (0 :: c) ∧ (i < i' ∧ w' + 6 * i + 4 ≤ w + 6 * i' ∧ s' + 4 * i + 3 ≤ s + 4 * i' ∧ nw' + i ≤ nw + i' ∧ ns' + i ≤ ns + i') ∧ ((tk_k T n i = 5 ∧ tk_V T n (tk_pos T n i) = 125) → w' ≤ w ∧ s' ≤ s) ∧ H 0 64 = 4294967295) ∨ ∃ e p, rm_out nn e p F ∧ sx T n G0 c0 O e p N (zz D + 38) K)) → wok (dk_151_78 (dk_R nn k) nn (dk_151_32 (dk_R nn k) nn g) G D (hg c) it m) (fun _ K => (∃ i' w' s' nw' ns' np' ls' cs' H, (rm_to nn F H ∧ rm_fr F H) ∧ eg T n M G0 c0 O N off voff ph cx cb F G i ls cs w s nw ns np (0 :: c) D W L P Q H K i' ls' cs' w' s' nw' ns' np' (0 :: c) ∧ (i < i' ∧ w' + 6 * i + 4 ≤ w + 6 * i' ∧ s' + 4 * i + 3 ≤ s + 4 * i' ∧ nw' + i ≤ nw + i' ∧ ns' + i ≤ ns + i') ∧ ((tk_k T n i = 5 ∧ tk_V T n (tk_pos T n i) = 125) → w' ≤ w ∧ s' ≤ s) ∧ H 0 64 = 4294967295) ∨ ∃ e p, rm_out nn e p F ∧ sx T n G0 c0 O e p N (zz D + 38) K) := fun v hv h98 => by
      unfold dk_151_78
      rw [Nat.mod_eq_of_lt (show D + 1 < 4294967296 by omega)]
      by_cases z30 : m = 30
      · refine wok_t z30 (wok_b (bt_f3 (B := 6200) hM hp hc hbp (by omega) (by omega) m5 (by omega)).2 fun r K h => ?_)
        exact tl98 _ _ _ _ h (by omega) (hba _ _ (rba_f (hv.trans (rF_30 hM hp z30)) hfp (by rw [hp.2.1.2.1]; omega)))
      refine wok_f z30 ?_
      by_cases z20 : D = 20
      · refine wok_t ((wd_slt (by decide) (by omega)).mpr (by omega)) (wok_b (bt_f3 (B := 6200) hM hp hc hbp (by omega) (by omega) m5 (by omega)).2 fun r K h => ?_)
        exact tl98 _ _ _ _ h (by omega) (hba _ _ (rba_f (hv.trans (rF_deep hM hp z30 z20)) hfp (by rw [hp.2.1.2.1]; omega)))
      exact wok_f (fun z => absurd ((wd_slt (by decide) (by omega)).mp z) (by omega)) (h98 (by omega) (by omega))
    -- a field with a key stands
    have keyed : m ≤ 29 → D ≤ 19 → wok (dk_R nn k 153 [D] G) (fun _ K => kvp nn T n M G0 c0 O N off voff ph cx cb F F G i ls cs w s nw ns np (0 :: c) c D (it + 1) m W L P Q K ∨ ∃ e p, rm_out nn e p F ∧ sx T n G0 c0 O e p N (zz (D + 2) + 75) K) → wok (dk_151_136 (dk_R nn k) nn (dk_151_32 (dk_R nn k) nn g) G D (hg c) it m 1) (fun _ K => (∃ i' w' s' nw' ns' np' ls' cs' H, (rm_to nn F H ∧ rm_fr F H) ∧ eg T n M G0 c0 O N off voff ph cx cb F G i ls cs w s nw ns np (0 :: c) D W L P Q H K i' ls' cs' w' s' nw' ns' np' (0 :: c) ∧ (i < i' ∧ w' + 6 * i + 4 ≤ w + 6 * i' ∧ s' + 4 * i + 3 ≤ s + 4 * i' ∧ nw' + i ≤ nw + i' ∧ ns' + i ≤ ns + i') ∧ ((tk_k T n i = 5 ∧ tk_V T n (tk_pos T n i) = 125) → w' ≤ w ∧ s' ≤ s) ∧ H 0 64 = 4294967295) ∨ ∃ e p, rm_out nn e p F ∧ sx T n G0 c0 O e p N (zz D + 38) K) := fun hm29 hD19 hk1 => by
      unfold dk_151_136
      refine wok_f (by decide) (wok_b hk1 fun r K h => ?_)
      dsimp only
      rcases h with ⟨i1, w1, s1, nw1, ns1, np1, ls1, cs1, H1, K0, kx, ln, v2, g1, e1, c1, b1, k1, q1, hkx, ⟨u1, u2, u3, u4, u5⟩⟩ | ⟨e, p, ho, hx⟩
      · have hi1 := e1.1.1.2.2.1
        refine wok_b (keyed_sep (nn := nn) (cb := cb) hM e1.1 c1 b1 hn hc0 hO k1 q1 hkx (by omega) (by omega) (by omega) e1.2.2.2.2.2.2 (by omega) (by omega) (by omega) (by omega)) fun r K2 h2 => ?_
        refine wok_l ?_
        dsimp only
        rw [Nat.mod_eq_of_lt (show m + 1 < 4294967296 by omega)]
        rcases h2 with ⟨i2, ms, H2, g2, e2, v1⟩ | ⟨e, p, ho, hx⟩
        · have v0 := e2.2.2.2.2.2.1
          exact cont it i2 (w1 + 1) (s1 + 1) nw1 ns1 np1 ls1 ms H2 K2 (by omega) ⟨rm_trans g1.1 g2.1, rm_fr_trans g1.2 g2.2⟩ (eg_t e1 e2 h62) hm29 ⟨by omega, by omega, by omega, by omega, by omega⟩ (Or.inl ⟨by omega, by omega⟩)
        · exact tlk _ _ _ _ hx (by omega) (rm_to_out g1.1 g1.2 ho)
      · refine wok_b (sx_152 hx) fun r K2 h2 => ?_
        refine wok_l ?_
        rw [Nat.mod_eq_of_lt (show m + 1 < 4294967296 by omega)]
        exact tlk _ _ _ _ h2 (by omega) ho
    by_cases q91 : tk_k T n i = 5 ∧ tk_V T n (tk_pos T n i) = 91
    · have h42 := h33.trans (rF_42 (pos := it + 1) (m := m) hM hp q125 (Or.inl q91))
      rw [if_pos q91] at h42
      refine wok_t (h57.trans (s91.mpr q91)) (s78 1 h42 fun hm29 hD19 => ?_)
      unfold dk_151_98
      refine wok_t (h57.trans (s91.mpr q91)) (keyed hm29 hD19 ?_)
      have hk2 := rF_key (pos := it + 1) (m := m) hM hp (by omega) (show D < 20 by omega) (by omega)
      obtain ⟨_, h2⟩ := rF_enter (show D < 20 by omega) hp
      refine kvA (k := k) (t := D) hM (hE hD19) (by omega) rfl hD19 hgo hba (h42.trans hk2) (rm_fr_la (rm_fr_la (rm_fr_up hfp (by decide) (by decide)))) (fun d j q => by rw [pm_la_ne (by omega) (by omega), pm_la_ne (by omega) (by omega), wq_up_cell (by omega), hxp d j (by omega)]) (ry_la (ry_la h2)) hc (bz_la (bz_la (bz_fu hbp (by omega)))) hn hc0 hO ⟨m1, m2, m3, m4, m5, by omega, m7, by show W.length + 1 ≤ _; omega, ⟨by omega, m9.2⟩, by omega, by omega, by omega⟩ q91
    refine wok_f (fun z => q91 (s91.mp (h57.symm.trans z))) ?_
    rw [dkS_114, od_bS]
    dsimp only
    rw [h57]
    by_cases hex : tb_ex (tk_ty T n (tk_pos T n i)) = 0
    · refine wok_t hex (wok_b (bt_wr (B := 6200) hM hp hc hbp (by omega) (by omega) m5 (by omega)).2 fun r K h => ?_)
      exact tl98 _ _ _ _ h (by omega) (hba _ _ (rba_f (h33.trans (rF_wrong hM hp q125 q91 hex)) hfp (by rw [hp.2.1.2.1]; omega)))
    refine wok_f hex ?_
    have h42 := h33.trans (rF_42 (pos := it + 1) (m := m) hM hp q125 (Or.inr hex))
    rw [if_neg q91] at h42
    refine s78 0 h42 fun hm29 hD19 => ?_
    have hF := rF_0 (pos := it + 1) (m := m) hM hp (by omega) (show D < 20 by omega)
    obtain ⟨_, h2⟩ := rF_enter (show D < 20 by omega) hp
    have f2 : rm_fr F (wq_up F1 0 47 (D + 1)) := rm_fr_up hfp (by decide) (by decide)
    have b2 := bz_fu (d := 0) (j := 47) (v := D + 1) hbp (by omega)
    have x2 : ∀ d j, ¬ d = 0 → wq_up F1 0 47 (D + 1) d j = F d j := fun d j q => (wq_up_cell q).trans (hxp d j q)
    have v11 : wq_up F1 0 47 (D + 1) 11 (wq_up F1 0 47 (D + 1) 0 25) = F1 11 i := by
      rw [wq_up_at (by decide), hp.1.2.1, wq_up_cell (by decide)]
    generalize wq_up F1 0 47 (D + 1) = F2 at *
    have hw2 : F2 0 41 = w := h2.2.1.2.1
    -- the reference takes it for a field without a key
    have refp : mm = dk_249_161 F2 (it + 1) m 0 → ∃ F3, (rm_to nn F F3 ∧ rm_fr F F3) ∧ ry T n M i ls (D + 1) (w + 1) nw np ((3, 0, 0, 0) :: (18, it + 1, m, 0) :: W) L P F3 ∧ bz N off voff ph cx (1 :: 0 :: c) np F3 ls G cs ∧ bz N off voff ph cx (0 :: c) np F3 ls G cs ∧ eg T n M G0 c0 O N off voff ph cx cb F G i ls cs w s nw ns np (0 :: c) (D + 1) ((3, 0, 0, 0) :: (18, it + 1, m, 0) :: W) L P Q F3 G i ls cs (w + 1) s nw ns np (1 :: 0 :: c) := fun hmm => by
      have hat := pm_em_at (F := F2) (op := 14) (a := 0) (b := 0) (ln := 0)
      rw [hw2] at hat
      have hr3 : ry T n M i ls (D + 1) (w + 1) nw np ((3, 0, 0, 0) :: (18, it + 1, m, 0) :: W) L P (pm_la (pm_la (pm_em F2 14 0 0 0) 18 (it + 1) m 0) 3 0 0 0) := ry_la (ry_la (ry_em h2))
      have b3 := bz_la (k := 3) (x := 0) (y := 0) (z := 0) (bz_la (k := 18) (x := it + 1) (y := m) (z := 0) (bz_em (op := 14) (a := 0) (b := 0) (ln := 0) b2))
      have b4 : bz N off voff ph cx (1 :: 0 :: c) np (pm_la (pm_la (pm_em F2 14 0 0 0) 18 (it + 1) m 0) 3 0 0 0) ls G cs := bz_h b3 (bzG_refl _) (fun l hl => by
        by_cases z : l = N - 1
        · rw [if_pos z, z, bz_hc b3, hg_1]
        · rw [if_neg z]) (fun k _ _ h => cx_at_c h) (bz_c0 b3 (by decide))
      refine ⟨_, hgo _ (rgo_i (hmm.trans (rF_p h2 (by omega) (by omega))) (by decide) hr3.1.1 (rm_fr_la (rm_fr_la (rm_fr_em f2)))), hr3, b4, b3, ⟨hr3, hc, b4, ?_, ⟨st_sf_refl _, st_pre_refl _, ⟨fun _ _ => ⟨rfl, rfl⟩, fun _ _ _ _ => rfl⟩⟩, Nat.le_refl _, m5⟩⟩
      refine pj_1 ⟨by omega, by omega, by omega, by omega⟩ (fun d j q => by rw [pm_la_ne (by omega) (by omega), pm_la_ne (by omega) (by omega), pm_em_ne (by omega) (by omega), x2 d j (by omega)]) (fun d j q => rfl) (fun H J nm ha2 hb2 _ => Or.inl ⟨13, ?_, rfl⟩)
      rw [ha2.1 20 w (by decide) (by decide) (by omega) (by omega), pm_la_ne (by omega) (by omega), pm_la_ne (by omega) (by omega)]
      exact hat.1
    have posi : mm = dk_249_161 F2 (it + 1) m 0 → wok (dk_151_136 (dk_R nn k) nn (dk_151_32 (dk_R nn k) nn g) G D (hg c) it m 0) (fun _ K => (∃ i' w' s' nw' ns' np' ls' cs' H, (rm_to nn F H ∧ rm_fr F H) ∧ eg T n M G0 c0 O N off voff ph cx cb F G i ls cs w s nw ns np (0 :: c) D W L P Q H K i' ls' cs' w' s' nw' ns' np' (0 :: c) ∧ (i < i' ∧ w' + 6 * i + 4 ≤ w + 6 * i' ∧ s' + 4 * i + 3 ≤ s + 4 * i' ∧ nw' + i ≤ nw + i' ∧ ns' + i ≤ ns + i') ∧ ((tk_k T n i = 5 ∧ tk_V T n (tk_pos T n i) = 125) → w' ≤ w ∧ s' ≤ s) ∧ H 0 64 = 4294967295) ∨ ∃ e p, rm_out nn e p F ∧ sx T n G0 c0 O e p N (zz D + 38) K) := fun hmm => by
      obtain ⟨F3, g3, hr3, b3, _, e3⟩ := refp hmm
      unfold dk_151_136
      refine wok_t rfl (wok_l ?_)
      rw [Nat.mod_eq_of_lt (show it + 1 < 4294967296 by omega)]
      refine wok_b (pos_field (nn := nn) (cb := cb) (c := c) (t := D) hM (hE hD19) (by omega) rfl hD19 hr3 hc b3 hn hc0 hO ⟨by omega, by omega, by omega, by omega, m5, by omega, by rw [hg_1]; omega, by show W.length + 1 ≤ _; omega, ⟨by omega, m9.2⟩, by omega, by omega, by omega⟩ (by omega) (by omega)) fun r K h => ?_
      refine wok_l ?_
      dsimp only
      rw [Nat.mod_eq_of_lt (show m + 1 < 4294967296 by omega)]
      rcases h with ⟨i1, w1, s1, nw1, ns1, np1, ls1, cs1, H1, g1, e1, ⟨u1, u2, u3, u4, u5⟩, u6⟩ | ⟨e, p, ho, hx⟩
      · refine cont (it + 1) i1 w1 s1 nw1 ns1 np1 ls1 cs1 H1 K (by omega) ⟨rm_trans g3.1 g1.1, rm_fr_trans g3.2 g1.2⟩ (eg_t e3 e1 h62) hm29 ⟨by omega, by omega, by omega, by omega, by omega⟩ ?_
        rcases u6 with z | z
        · exact Or.inl ⟨by omega, by omega⟩
        · exact Or.inr z
      · exact wok_m (sx_32 (by omega) g _ (m + 1) (zz (D + 2) + 71) K hx (by have := hz.2.2 hD19; omega) (by omega) (by omega)) fun r K h => Or.inr ⟨e, p, rm_to_out g3.1 g3.2 ho, sx_le h (by have := hz.2.2 hD19; omega)⟩
    unfold dk_151_98
    refine wok_f (fun z => q91 (s91.mp (h57.symm.trans z))) ?_
    by_cases q1 : tk_k T n i = 1
    · refine wok_t (h57.trans (tk_ty_kind.1.mpr q1)) ?_
      rw [cy_185 hM hiM hc q1, od_bS]
      dsimp only
      rw [if_ck]
      refine wok_i (fun qc => ?_) (fun qc => ?_)
      · by_cases q15 : i = 1500
        · rcases hF with ⟨z, _⟩ | ⟨_, hmm⟩
          · have := z.2.1
            omega
          · obtain ⟨F3, g3, hr3, _, b3, _⟩ := refp (h42.trans hmm)
            have ho := rm_to_out g3.1 g3.2 (ref_over (nn := nn) hM hr3 hc b3 q1 q15 hn hc0 hO (by omega) (by omega) (by omega) m5 (by omega) (by show W.length + 1 < 3900; omega) (by omega))
            unfold dk_151_136
            refine wok_f (by decide) (wok_b (kvO (nn := nn) hM hp hc hbp (by omega) hn hc0 hO q1 q15 (by omega) (by omega) m5 (by omega) (by omega)) fun r K h => ?_)
            refine wok_b (sx_152 h) fun r K h => ?_
            refine wok_l ?_
            dsimp only
            rw [Nat.mod_eq_of_lt (show m + 1 < 4294967296 by omega)]
            exact tlk _ _ _ _ h (by omega) ho
        · rcases hF with ⟨z, hmm⟩ | ⟨z, _⟩
          · refine keyed hm29 hD19 ?_
            have vr := (hp.1.2.2.2.2.2.1 i (by omega)).2.2.2 (Or.inl q1)
            have hlb := lsb_len hb.2.2.2.2.2.2.2 hp.1.2.2.2.2.2.2
            have hat := pm_em_at (F := F2) (op := 5) (a := ev_oL2i (18446744073709551616 + F2 11 (F2 0 25))) (b := 0) (ln := 0)
            rw [hw2] at hat
            have v12 : ev_oL2i (18446744073709551616 + F2 11 (F2 0 25)) = F1 11 i := by
              rw [v11]
              exact tb_l2i (by omega)
            refine kvB (k := k) (t := D) (pos := it + 1) (m := m) hM (hE hD19) (by omega) hD19 hgo hba ((h42.trans hmm).trans (rF_n hM h2 (by omega) (by omega))) (rm_fr_la (rm_fr_la (rm_fr_em f2))) (fun d j q q2 => by rw [pm_la_ne (by omega) (by omega), pm_la_ne (by omega) (by omega), pm_em_ne (by omega) (by omega), x2 d j (by omega)]) ?_ ?_ (ry_la (ry_la (ry_em h2))) hc (bz_la (bz_la (bz_em b2))) hn hc0 hO ⟨m1, m2, m3, m4, m5, by omega, m7, by show W.length + 1 ≤ _; omega, ⟨by omega, m9.2⟩, by omega, by omega, by omega⟩ z
            · rw [pm_la_ne (by omega) (by omega), pm_la_ne (by omega) (by omega)]
              exact hat.1
            · rw [pm_la_ne (by omega) (by omega), pm_la_ne (by omega) (by omega), hat.2.1, v12]
              exact ⟨vr.1, vr.2.1⟩
          · exact absurd ⟨q1, by omega, qc⟩ z
      · rcases hF with ⟨z, _⟩ | ⟨_, hmm⟩
        · exact absurd z.2.2 qc
        · exact posi (h42.trans hmm)
    · refine wok_f (fun z => q1 (tk_ty_kind.1.mp (h57.symm.trans z))) ?_
      rcases hF with ⟨z, _⟩ | ⟨_, hmm⟩
      · exact absurd z.1 q1
      · exact posi (h42.trans hmm)
/-- a table -/
theorem Tb_of {D : Nat} (hM : tk_M T n M) (hE : D ≤ 19 → E_ok nn T n M G0 c0 O (D + 2)) (hD : D ≤ 20) (hn : 10000 < nn) (hc0 : c0.length ≤ 1400) (hO : O ≤ 20000) : Tb_ok nn T n M G0 c0 O D := by
  intro k i t w s nw ns np N off voff ph cx c cb W L P Q ls cs F G hk htD hkk hr hc hb hB hW
  subst htD
  have hB0 := hB
  obtain ⟨m1, m2, m3, m4, m5, m6, m7, m8, m9, m10, m11, m12⟩ := hB0
  have h62 := hb.2.2.2.2.2.1
  have hM1 := hM.1
  have hiM := hr.1.2.2.1
  have h41 : F 0 41 = w := hr.2.1.2.1
  have h46 : F 0 46 = W.length := hr.2.2.1.1
  have hz : 6310 ≤ zz t ∧ zz t < 9800 := by unfold zz; omega
  obtain ⟨k, rfl⟩ : ∃ m, k = m + 1 := ⟨k - 1, by omega⟩
  have hat := pm_em_at (F := F) (op := 26) (a := 0) (b := 0) (ln := 0)
  rw [h41] at hat
  have hd : dk_248 F = dk_212 (pm_la (pm_em F 26 0 0 0) 15 1 0 0) := by
    unfold dk_248
    rw [dkS_30 (by omega), od_bS]
    dsimp only
    rw [dkS_31 (by rw [pm_em_ne (by omega) (by omega)]; omega), od_bS, od_bI]
  have hr1 : ry T n M i ls t (w + 1) nw np ((15, 0 + 1, 0, 0) :: W) L P (pm_la (pm_em F 26 0 0 0) 15 1 0 0) := ry_la (ry_em hr)
  have f1 : rm_fr F (pm_la (pm_em F 26 0 0 0) 15 1 0 0) := rm_fr_la (rm_fr_em (rm_fr_refl _))
  have x1 : ∀ d j, ¬ d = 0 → ¬ (20 ≤ d ∧ d ≤ 23 ∧ j = w) → 12 ≤ d ∧ d ≤ 24 → pm_la (pm_em F 26 0 0 0) 15 1 0 0 d j = F d j := fun d j q1 q2 q3 => by
    rw [pm_la_ne (by omega) (by omega), pm_em_ne (by omega) (by omega)]
  have y20 : pm_la (pm_em F 26 0 0 0) 15 1 0 0 20 w = 26 := by
    rw [pm_la_ne (by omega) (by omega)]
    exact hat.1
  have bF : bzF F (pm_la (pm_em F 26 0 0 0) 15 1 0 0) := bzF_la (bzF_em (bzF_refl _))
  generalize pm_la (pm_em F 26 0 0 0) 15 1 0 0 = F1 at *
  rw [dk_Re_151]
  unfold dk_151
  rw [cy_84 hc hb, od_bS]
  dsimp only
  refine wok_b (cy_p1 (e := 0) hc (bz_F hb bF) (by omega) (by omega) (by decide)) fun r K1 h1 => ?_
  dsimp only
  obtain ⟨c1, b1, i1, q1, _⟩ := h1
  refine wok_b (bt_77 (B := 6200) hM hr1 c1 b1 (by omega) (by omega) (by omega) hc0 hO (by omega) (by omega) m5 (by omega)) fun r K2 h2 => ?_
  dsimp only
  rcases h2 with ⟨iM, e2, ms, c2, b2, f2, p2⟩ | ⟨e2, hx⟩
  · have hr2 := ry_nx hr1 iM
    have b2' : bz N off voff ph cx (0 :: c) np (wq_up F1 0 25 (i + 1)) ls K2 ms := bz_fu b2 (by omega)
    have q2 : qf (s + 1) ns K1 K2 := qf_fr f2
    have f3 : rm_fr F (wq_up F1 0 25 (i + 1)) := rm_fr_up f1 (by decide) (by decide)
    have e1 : eg T n M G0 c0 O N off voff ph cx cb F G i ls cs w s nw ns np c t _ L P Q (wq_up F1 0 25 (i + 1)) K2 (i + 1) ls ms (w + 1) (s + 1) nw ns np (0 :: c) := ⟨hr2, c2, b2', pj_1 ⟨by omega, by omega, by omega, by omega⟩ (fun d j q => (wq_up_cell (by omega)).trans (x1 d j (by omega) (by omega) (by omega))) (fun d j q => (q2 d j (by omega)).trans (q1 d j (by omega))) (fun H J nm ha2 hb2 _ => Or.inr ⟨0, by
      rw [ha2.1 20 w (by decide) (by decide) (by omega) (by omega), wq_up_cell (by decide)]; exact y20, by
      rw [hb2.1 12 s (by decide) (by decide) (by omega) (by omega), q2 12 s (by omega)]; exact i1.1, rfl⟩), ⟨st_sf_refl _, p2, ⟨fun l _ => ⟨(q2 62 l (by omega)).trans (q1 62 l (by omega)), (q2 65 l (by omega)).trans (q1 65 l (by omega))⟩, fun l _ e6 h6 => (q2 e6 l (by omega)).trans (q1 e6 l (by omega))⟩⟩, Nat.le_succ _, m5⟩
    have g2 : rgo nn F (dk_248 F) (wq_up F1 0 25 (i + 1)) := rgo_i (hd.trans e2) (by decide) hr2.1.1 f3
    refine wok_m (tab_loop (c := c) (cb := cb) hM hE (by omega) hD hn hc0 hO nn 0 0 (i + 1) (w + 1) (s + 1) nw ns np ls ms _ K2 (by decide) (by decide) (by omega) hr2 c2 b2' ⟨by omega, by omega, by omega, by omega, m5, m6, by rw [hg_0]; omega, by show W.length + 3 ≤ _; omega, m9, m10, m11, m12⟩ (Or.inl ⟨by omega, by omega⟩)) fun r K h => ?_
    rcases h with ⟨i', w', s', nw', ns', np', ls', cs', H, g3, e3, ⟨u1, u2, u3, u4, u5⟩, _, u7⟩ | ⟨e, p, ho, hx⟩
    · exact Or.inl ⟨i', w', s', nw', ns', np', ls', cs', H, rgo_t g2 g3, eg_t e1 e3 h62, ⟨by omega, by omega, by omega, by omega, by omega⟩, u7⟩
    · exact Or.inr ⟨e, p, rgo_o g2 ho, sx_le hx (by omega)⟩
  · refine wok_m (sx_32 (by omega) nn 0 0 6200 K2 hx (by decide) (by decide) (by omega)) fun r K h => Or.inr ⟨3, _, rba_f (hd.trans e2) f1 (by rw [hr1.2.1.2.1]; omega), sx_le h (by omega)⟩
end
