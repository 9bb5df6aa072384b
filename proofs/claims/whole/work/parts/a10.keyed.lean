/-! ===== a10: fields with keys (wip/whole2/lawa10.py) ===== -/
section
variable {nn : Nat} {T : Nat → Nat} {n M O : Nat} {G0 : wq_F} {c0 : List (List Nat)} {i t w s nw ns np N : Nat} {off voff ph : Nat → Nat} {cx : Nat → List Nat} {c cb : List Nat} {W : List (Nat × Nat × Nat × Nat)} {L : List (Nat × Nat)} {P Q : List (Nat × Nat × Nat)} {ls cs : List (List Nat)} {F G : wq_F}

/-- the rest of a field with a key, the class being stopped -/
theorem sx_43 {k e p B D v2 : Nat} (h : sx T n G0 c0 O e p N B G) (hB : B < 9990) (hk : 1 ≤ k) : wok (dk_153_43 (dk_R nn k) nn G D v2) (fun _ K => sx T n G0 c0 O e p N (B + 1) K) := by
  unfold dk_153_43
  refine wok_b (sx_110 h (by decide)) fun r K h => ?_
  refine wok_b (sx_148 h hk) fun r K h => ?_
  exact wok_b (sx_112 h.2 (by omega)) fun r K h => wok_r h
theorem kvp_of {D pos m i' w' s' kx ln v2 : Nat} {ls' cs' : List (List Nat)} {F1 G1 K : wq_F} (h : ∃ i1 w1 s1 nw1 ns1 np1 ls1 cs1 H1 K0, (rm_to nn F1 H1 ∧ rm_fr F1 H1) ∧ eg T n M G0 c0 O N off voff ph cx cb F1 G1 i' ls' cs' w' s' nw ns np (kx :: 0 :: c) (t + 1) ((17, ln, pos, m) :: W) L P Q H1 K0 i1 ls1 cs1 w1 s1 nw1 ns1 np1 (0 :: kx :: 0 :: c) ∧ cy T n G0 c0 O i1 cs1 (s1 + 1) ns1 np1 N Q K ∧ bz N off voff ph cx (0 :: c) np1 H1 ls1 K cs1 ∧ cI K s1 14 0 0 v2 ∧ qf s1 ns1 K0 K ∧ rts i' w' s' nw ns i1 w1 s1 nw1 ns1) {W' : List (Nat × Nat × Nat × Nat)} (g : rm_to nn F F1 ∧ rm_fr F F1) (e : eg T n M G0 c0 O N off voff ph cx cb F G i ls cs w s nw ns np (0 :: c) (t + 1) W' L P Q F1 G1 i' ls' cs' w' s' nw ns np (kx :: 0 :: c)) (hkx : (kx = 0 ∧ v2 = ln) ∨ kx = 4) (h62 : ∀ l, l < N → G 62 l < np) (hq : w' + 6 * i + 6 ≤ w + 6 * i' ∧ s' + 4 * i + 4 ≤ s + 4 * i') : kvp nn T n M G0 c0 O N off voff ph cx cb F F G i ls cs w s nw ns np (0 :: c) c t pos m W L P Q K := by
  obtain ⟨i1, w1, s1, nw1, ns1, np1, ls1, cs1, H1, K0, a1, a2, a3, a4, a5, a6, ⟨u1, u2, u3, u4, u5⟩⟩ := h
  have hi := e.2.2.2.2.2.1
  exact ⟨i1, w1, s1, nw1, ns1, np1, ls1, cs1, H1, K0, kx, ln, v2, ⟨rm_trans g.1 a1.1, rm_fr_trans g.2 a1.2⟩, eg_t e a2 h62, a3, a4, a5, a6, hkx, by omega, by omega, by omega, by omega, by omega⟩
/-- [ key ] = value -/
theorem kvA {D k pos m : Nat} {Fa : wq_F} {mm : Option (Nat × wq_F)} (hM : tk_M T n M) (hE : E_ok nn T n M G0 c0 O (D + 2)) (hk : 20 * (22 - (D + 2)) + 21 ≤ k) (htD : t = D) (hD : D ≤ 19)
    (hgo : ∀ H, rgo nn F mm H → rm_to nn F H ∧ rm_fr F H) (hba : ∀ k p, rba nn F mm k p → rm_out nn k p F) (hd : mm = dk_212 Fa) (hfa : rm_fr F Fa) (hxa : ∀ d j, 12 ≤ d ∧ d ≤ 24 → Fa d j = F d j)
    (hr : ry T n M i ls (t + 1) w nw np ((3, 0, 0, 0) :: (16, 1 + lc T (tk_pos T n i), pos, m) :: W) L P Fa) (hc : cy T n G0 c0 O i cs s ns np N Q G) (hb : bz N off voff ph cx (0 :: c) np Fa ls G cs) (hn : 10000 < nn) (hc0 : c0.length ≤ 1400) (hO : O ≤ 20000) (hB : bnd i w s nw ns np (t + 1) (hg (0 :: c)) ((17, 0, pos, m) :: W) L P Q N) (hkk : tk_k T n i = 5 ∧ tk_V T n (tk_pos T n i) = 91) :
    wok (dk_R nn k 153 [D] G) (fun _ K => kvp nn T n M G0 c0 O N off voff ph cx cb F F G i ls cs w s nw ns np (0 :: c) c t pos m W L P Q K ∨ ∃ e p, rm_out nn e p F ∧ sx T n G0 c0 O e p N (zz (t + 2) + 75) K) := by
  subst htD
  have hB0 := hB
  obtain ⟨m1, m2, m3, m4, m5, m6, m7, m8, m9, m10, m11, m12⟩ := hB0
  have m8 : W.length + 1 ≤ 20 * (t + 1) + 20 := m8
  have h62 := hb.2.2.2.2.2.1
  have hM1 := hM.1
  have hiM := hr.1.2.2.1
  have hz : zz (t + 2) + 220 ≤ zz t ∧ 6310 ≤ zz (t + 2) ∧ zz t < 9800 := by unfold zz; omega
  have h57 : G 57 4 = 55 := hc.1.2.1.1.trans ((tk_ty_sign (c := 91) (by decide)).mpr hkk)
  have hln : G 57 6 = 1 + lc T (tk_pos T n i) := hc.1.2.1.2.2.1
  obtain ⟨k, rfl⟩ : ∃ m, k = m + 1 := ⟨k - 1, by omega⟩
  rw [dk_Re_153]
  unfold dk_153
  have t111 : wok (dk_111 nn G 55) (fun r K => r = 1 ∧ ((i < M ∧ dk_212 Fa = some (1, wq_up Fa 0 25 (i + 1)) ∧ ∃ ms, cy T n G0 c0 O (i + 1) ms s ns np N Q K ∧ bz N off voff ph cx (0 :: c) np Fa ls K ms ∧ px_fr G K ∧ st_pre cs ms) ∨ (dk_212 Fa = some (0, pm_f Fa 3 (tk_pos T n i)) ∧ sx T n G0 c0 O 3 (tk_pos T n i) N 6200 K))) := by
    unfold dk_111
    refine wok_t h57 (wok_f (by decide) ?_)
    exact wok_b (bt_77 (B := 6200) hM hr hc hb (by omega) (by omega) (by omega) hc0 hO (by omega) (by omega) m5 (by omega)) fun r K h => wok_r ⟨rfl, h⟩
  refine wok_b t111 fun r1 K1 h1 => ?_
  dsimp only
  obtain ⟨e1, h1⟩ := h1
  refine wok_f (by omega) ?_
  have tl : ∀ (e p B : Nat) (K : wq_F), sx T n G0 c0 O e p N B K → B + 1 ≤ zz (t + 2) + 75 → rm_out nn e p F → wok ((dk_110 nn K 56).bind fun y18 => dk_153_43 (dk_R nn k) nn y18.2 t (G 57 6)) (fun _ K => kvp nn T n M G0 c0 O N off voff ph cx cb F F G i ls cs w s nw ns np (0 :: c) c t pos m W L P Q K ∨ ∃ e p, rm_out nn e p F ∧ sx T n G0 c0 O e p N (zz (t + 2) + 75) K) := fun e p B K h hB ho => by
    refine wok_b (sx_110 h (by decide)) fun r K h => ?_
    exact wok_m (sx_43 h (by omega) (by omega)) fun r K h => Or.inr ⟨e, p, ho, sx_le h (by omega)⟩
  rcases h1 with ⟨iM, e2, ms, c1, b1, f1, p1⟩ | ⟨e2, hx⟩
  · have hr1 := ry_nx hr iM
    have g1 := hgo _ (rgo_i (hd.trans e2) (by decide) hr1.1.1 (rm_fr_up hfa (by decide) (by decide)))
    have b1' : bz N off voff ph cx (0 :: c) np (wq_up Fa 0 25 (i + 1)) ls K1 ms := bz_fu b1 (by omega)
    have x1 : ∀ d j, 12 ≤ d ∧ d ≤ 24 → wq_up Fa 0 25 (i + 1) d j = F d j := fun d j q => (wq_up_cell (by omega)).trans (hxa d j q)
    generalize wq_up Fa 0 25 (i + 1) = F1 at *
    have eg1 : eg T n M G0 c0 O N off voff ph cx cb F G i ls cs w s nw ns np (0 :: c) (t + 1) _ L P Q F1 K1 (i + 1) ls ms w s nw ns np (0 :: c) := eg_n hr1 c1 b1' (fun d j q => x1 d j (by omega)) (qf_fr f1) p1 (Nat.le_succ _) m5
    rw [Nat.mod_eq_of_lt (show t + 2 < 4294967296 by omega)]
    refine wok_b (hE k 0 0 (i + 1) (t + 1) w s nw ns np N off voff ph cx (0 :: c) cb ((16, 1 + lc T (tk_pos T n i), pos, m) :: W) L P Q ls ms F1 K1 (by omega) (Or.inl ⟨rfl, by decide⟩) rfl hr1 c1 b1' ⟨by omega, by omega, by omega, by omega, m5, m6, by omega, m8, m9, m10, m11, m12⟩) fun r2 K2 h2 => ?_
    dsimp only
    rcases h2 with ⟨i2, w2, s2, nw2, ns2, np2, ls2, cs2, H2, g2, eg2, rt, ho⟩ | ⟨e, p, ho, hx⟩
    · obtain ⟨rt1, rt2, rt3, rt4, rt5⟩ := rt
      have hi2 := eg2.1.1.2.2.1
      have hnp2 := eg2.2.2.2.2.2.2
      have hp := ry_pop eg2.1
      have hg2 := fun H => ry_go (nn := nn) (H := H) eg2.1 (by show W.length < 4000; omega)
      have hb2 := fun k p => ry_ba (nn := nn) (k := k) (p := p) eg2.1 (by show W.length < 4000; omega)
      have hr3 : ry T n M i2 ls2 (t + 1) w2 nw2 np2 ((3, 0, 0, 0) :: (17, 1 + lc T (tk_pos T n i), pos, m) :: W) L P (pm_la (pm_la (wq_up H2 0 46 W.length) 17 (1 + lc T (tk_pos T n i)) pos m) 3 0 0 0) := ry_la (ry_la hp)
      have b3 := bz_la (k := 3) (x := 0) (y := 0) (z := 0) (bz_la (k := 17) (x := 1 + lc T (tk_pos T n i)) (y := pos) (z := m) (bz_fu (d := 0) (j := 46) (v := W.length) eg2.2.2.1 (by omega)))
      have f3 : rm_fr H2 (pm_la (pm_la (wq_up H2 0 46 W.length) 17 (1 + lc T (tk_pos T n i)) pos m) 3 0 0 0) := rm_fr_la (rm_fr_la (rm_fr_up (rm_fr_refl _) (by decide) (by decide)))
      have x3 : ∀ d j, 12 ≤ d ∧ d ≤ 24 → pm_la (pm_la (wq_up H2 0 46 W.length) 17 (1 + lc T (tk_pos T n i)) pos m) 3 0 0 0 d j = H2 d j := fun d j q => by
        rw [pm_la_ne (by omega) (by omega), pm_la_ne (by omega) (by omega), wq_up_cell (by omega)]
      have hd2 : dk_32 nn (wq_up H2 0 46 W.length) (16, 1 + lc T (tk_pos T n i), pos, m).1 (16, 1 + lc T (tk_pos T n i), pos, m).2.1 (16, 1 + lc T (tk_pos T n i), pos, m).2.2.1 (16, 1 + lc T (tk_pos T n i), pos, m).2.2.2 = (dk_213 (pm_la (pm_la (wq_up H2 0 46 W.length) 17 (1 + lc T (tk_pos T n i)) pos m) 3 0 0 0) 93).bind fun y109 => if y109.1 = 0 then some (0, y109.2) else (dk_213 y109.2 61).bind fun y114 => if y114.1 = 0 then some (0, y114.2) else some (1, y114.2) := by
        show dk_32 nn (wq_up H2 0 46 W.length) 16 (1 + lc T (tk_pos T n i)) pos m = _
        rw [dk32_16, dkS_31 (by rw [hp.2.2.1.1]; omega), od_bS]
        dsimp only
        rw [dkS_31 (by rw [pm_la_at.2.2.2.2, hp.2.2.1.1]; omega), od_bS]
      generalize pm_la (pm_la (wq_up H2 0 46 W.length) 17 (1 + lc T (tk_pos T n i)) pos m) 3 0 0 0 = F3 at *
      refine wok_b (bt_sg (x := 93) (B := 6200) hM hr3 eg2.2.1 b3 (by decide) (by decide) (by omega) hc0 hO (by omega) (by omega) hnp2 (by omega)) fun r K3 h3 => ?_
      dsimp only
      unfold dk_153_43
      rcases h3 with ⟨iM3, e3, ms3, c3, b3', f3', p3⟩ | ⟨e, e3, hx⟩
      · rw [e3, od_bS] at hd2
        dsimp only at hd2
        rw [if_neg (by decide)] at hd2
        have hr4 := ry_nx hr3 iM3
        have b4 : bz N off voff ph cx (0 :: 0 :: c) np2 (wq_up F3 0 25 (i2 + 1)) ls2 K3 ms3 := bz_fu b3' (by omega)
        have f4 : rm_fr H2 (wq_up F3 0 25 (i2 + 1)) := rm_fr_up f3 (by decide) (by decide)
        have x4 : ∀ d j, 12 ≤ d ∧ d ≤ 24 → wq_up F3 0 25 (i2 + 1) d j = H2 d j := fun d j q => (wq_up_cell (by omega)).trans (x3 d j q)
        generalize wq_up F3 0 25 (i2 + 1) = F4 at *
        refine wok_b (bt_sg (x := 61) (B := 6200) hM hr4 c3 b4 (by decide) (by decide) (by omega) hc0 hO (by omega) (by omega) hnp2 (by omega)) fun r K4 h4 => ?_
        dsimp only
        rcases h4 with ⟨iM4, e4, ms4, c4, b4', f4', p4⟩ | ⟨e, e4, hx⟩
        · rw [e4, od_bS] at hd2
          dsimp only at hd2
          have hr5 := ry_nx hr4 iM4
          have b5 : bz N off voff ph cx (0 :: 0 :: c) np2 (wq_up F4 0 25 (i2 + 1 + 1)) ls2 K4 ms4 := bz_fu b4' (by omega)
          have g5 := hg2 _ (rgo_i (hd2.trans (if_neg (by decide))) (by decide) hr5.1.1 (rm_fr_up f4 (by decide) (by decide)))
          have eg5 : eg T n M G0 c0 O N off voff ph cx cb H2 K2 i2 ls2 cs2 w2 s2 nw2 ns2 np2 (0 :: 0 :: c) (t + 1) _ L P Q (wq_up F4 0 25 (i2 + 1 + 1)) K4 (i2 + 1 + 1) ls2 ms4 w2 s2 nw2 ns2 np2 (0 :: 0 :: c) := eg_n hr5 c4 b5 (fun d j q => (wq_up_cell (by omega)).trans (x4 d j (by omega))) (qf_trans (qf_fr f3') (qf_fr f4') (Nat.le_refl _) (Nat.le_refl _)) (st_pre_trans p3 p4) (by omega) hnp2
          have ege := eg_t (eg_t eg1 eg2 h62) eg5 h62
          rw [hln]
          refine wok_m (kv_end (cb := cb) (v2 := 1 + lc T (tk_pos T n i)) hM hE (by omega) rfl hD hr5 c4 b5 hn hc0 hO ⟨by omega, by omega, by omega, by omega, hnp2, m6, by rw [hg_0, hg_0]; rw [hg_0] at m7; omega, by show W.length + 1 ≤ _; omega, m9, m10, m11, m12⟩ (Or.inl ⟨rfl, rfl⟩)) fun r K h => ?_
          rcases h with h | ⟨e, p, ho2, hx⟩
          · obtain ⟨i1, w1, s1, nw1, ns1, np1, ls1, cs1, H1, K0, a1, a2, a3, a4, a5, a6, ⟨u1, u2, u3, u4, u5⟩⟩ := h
            exact Or.inl ⟨i1, w1, s1, nw1, ns1, np1, ls1, cs1, H1, K0, 0, 1 + lc T (tk_pos T n i), 1 + lc T (tk_pos T n i), ⟨rm_trans g1.1 (rm_trans g2.1 (rm_trans g5.1 a1.1)), rm_fr_trans g1.2 (rm_fr_trans g2.2 (rm_fr_trans g5.2 a1.2))⟩, eg_t ege a2 h62, a3, a4, a5, a6, Or.inl ⟨rfl, rfl⟩, by omega, by omega, by omega, by omega, by omega⟩
          · exact Or.inr ⟨e, p, rm_to_out g1.1 g1.2 (rm_to_out g2.1 g2.2 (rm_to_out g5.1 g5.2 ho2)), sx_le hx (by omega)⟩
        · rw [e4, od_bS] at hd2
          have ho2 := hb2 _ _ (rba_f (hd2.trans (if_pos rfl)) f4 (by rw [hr4.2.1.2.1]; omega))
          refine wok_b (sx_148 hx (by omega)) fun r K h => ?_
          exact wok_b (sx_112 h.2 (by omega)) fun r K h => wok_r (Or.inr ⟨_, _, rm_to_out g1.1 g1.2 (rm_to_out g2.1 g2.2 ho2), sx_le h (by omega)⟩)
      · rw [e3, od_bS] at hd2
        have ho2 := hb2 _ _ (rba_f (hd2.trans (if_pos rfl)) f3 (by rw [hr3.2.1.2.1]; omega))
        refine wok_b (sx_110 hx (by decide)) fun r K h => ?_
        refine wok_b (sx_148 h (by omega)) fun r K h => ?_
        exact wok_b (sx_112 h.2 (by omega)) fun r K h => wok_r (Or.inr ⟨_, _, rm_to_out g1.1 g1.2 (rm_to_out g2.1 g2.2 ho2), sx_le h (by omega)⟩)
    · exact tl _ _ _ _ hx (by omega) (rm_to_out g1.1 g1.2 ho)
  · refine wok_b (sx_148 hx (by omega)) fun r K h => ?_
    exact tl _ _ _ _ h.2 (by omega) (hba _ _ (rba_f (hd.trans e2) hfa (by rw [hr.2.1.2.1]; omega)))
end
