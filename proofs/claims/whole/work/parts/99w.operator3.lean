/-! ===== 99w: operators that reckon, join, compare (wip/whole2/law99w.py) ===== -/
section
variable {nn : Nat} {T : Nat → Nat} {n M O : Nat} {G0 : wq_F} {c0 : List (List Nat)} {i t w s nw ns np N : Nat} {off voff ph : Nat → Nat} {cx : Nat → List Nat} {c cb : List Nat} {W : List (Nat × Nat × Nat × Nat)} {L : List (Nat × Nat)} {P Q : List (Nat × Nat × Nat)} {ls cs : List (List Nat)} {F G : wq_F}

/-- the operator, once both sides stand -/
theorem bin_step {y ln : Nat} (hr : ry T n M i ls t w nw np ((6, y, ln, 0) :: W) L P F) (hc : cy T n G0 c0 O i cs s ns np N Q G) (hb : bz N off voff ph cx (0 :: 0 :: c) np F ls G cs) (hy : y ∈ bop_l) (hw : w < 13990) (hs : s < 9990) (hW : W.length < 3990) (hh : hg c < 100000) (hnp : np ≤ 50) :
    wok ((dk_147 G (lx_sg y)).bind fun y5 => (dk_112 y5.2 y5.1 0 ln 4294967295).bind fun y9 => if lx_sg y = 67 then (dk_112 y9.2 25 0 ln 0).bind fun y19 => some (0, y19.2) else if tb_sg (lx_sg y) = 3 then (dk_112 y9.2 26 0 ln 0).bind fun y15 => some (0, y15.2) else some (0, y9.2))
      (fun _ K => ∃ H s', (rm_to nn F H ∧ rm_fr F H) ∧ eg T n M G0 c0 O N off voff ph cx cb F G i ls cs w s nw ns np (0 :: 0 :: c) t W L P Q H K i ls cs (w + 1) s' nw ns np (0 :: c) ∧ s ≤ s' ∧ s' ≤ s + 2 ∧ H 0 64 = 4294967295) := by
  obtain ⟨o, a, b, g, z, tR, tC, tF⟩ := bop_tab y hy
  have h1 := ry_pop hr
  have hw1 : wq_up F 0 46 W.length 0 41 = w := h1.2.1.2.1
  have e1 := tR (wq_up F 0 46 W.length) ln 0 (by rw [hw1]; omega)
  have h2 : ry T n M i ls t (w + 1) nw np W L P (pm_em (wq_up (wq_up F 0 46 W.length) 0 64 4294967295) o a b ln) := ry_em (ry_up h1 (by unfold ry_n; omega))
  have hw3 : wq_up (wq_up F 0 46 W.length) 0 64 4294967295 0 41 = w := by
    rw [wq_up_at (by decide), hw1]
  have hat := pm_em_at (F := wq_up (wq_up F 0 46 W.length) 0 64 4294967295) (op := o) (a := a) (b := b) (ln := ln)
  rw [hw3] at hat
  have fm : ∀ d j, ¬ (20 ≤ d ∧ d ≤ 23 ∧ j = w) → ¬ d = 0 → pm_em (wq_up (wq_up F 0 46 W.length) 0 64 4294967295) o a b ln d j = F d j := fun d j h3 h4 => by
    rw [pm_em_ne (by omega) (by omega), wq_up_cell (by omega), wq_up_cell (by omega)]
  have hgo := ry_go (nn := nn) hr (by show W.length < 4000; omega) (rgo_i (r := 1) (K := pm_em (wq_up (wq_up F 0 46 W.length) 0 64 4294967295) o a b ln) (by
    show dk_32 nn _ 6 y ln 0 = _
    rw [dk32_6, e1, od_bS]) (by decide) h2.1.1 (rm_fr_em (rm_fr_up (rm_fr_up (rm_fr_refl _) (by decide) (by decide)) (by decide) (by decide))))
  have h64 : pm_em (wq_up (wq_up F 0 46 W.length) 0 64 4294967295) o a b ln 0 64 = 4294967295 := by
    rw [pm_em_ne (by omega) (by omega), wq_up_same]
  have hbF : bzF F (pm_em (wq_up (wq_up F 0 46 W.length) 0 64 4294967295) o a b ln) := bzF_em (bzF_up (bzF_up (bzF_refl _) (by omega)) (by omega))
  generalize pm_em (wq_up (wq_up F 0 46 W.length) 0 64 4294967295) o a b ln = H1 at *
  rw [tC, od_bS]
  dsimp only
  refine wok_b (cy_112 (d := 0 :: c) hc hb (by omega) (by rw [hg_0, hg_0, hg_0]; omega) (fun k _ _ h => cx_at_dn (a := [0]) (fun e he => by rw [List.mem_singleton.mp he]; decide) h) (bz_cd hb (a := [0]) rfl)) fun r K1 hK => ?_
  dsimp only
  obtain ⟨k1, k2, k3, k4, k5⟩ := hK
  have one : ∀ (J H : wq_F), ag H1 H w (w + 1) nw nw np np (G 62 (N - 1)) → H 20 w = o ∧ H 21 w = a ∧ H 22 w = b ∧ H 23 w = ln := fun J H ha => ⟨by rw [ha.1 20 w (by decide) (by decide) (by omega) (by omega)]; exact hat.1, by rw [ha.1 21 w (by decide) (by decide) (by omega) (by omega)]; exact hat.2.1, by rw [ha.1 22 w (by decide) (by decide) (by omega) (by omega)]; exact hat.2.2.1, by rw [ha.1 23 w (by decide) (by decide) (by omega) (by omega)]; exact hat.2.2.2.1⟩
  rcases tF with ⟨z0, ⟨z1, z2⟩, fm0⟩ | ⟨zz0, fm1⟩
  · refine wok_f z1 (wok_f z2 (wok_r ⟨H1, s + 1, hgo, ⟨h2, k1, bz_F k2 hbF, ?_, ⟨st_sf_refl _, st_pre_refl _, ⟨fun l _ => ⟨k4 62 l (by omega), k4 65 l (by omega)⟩, fun l _ e6 h6 => k4 e6 l (by omega)⟩⟩, Nat.le_refl _, hnp⟩, by omega, by omega, h64⟩))
    refine pj_1 ⟨by omega, by omega, by omega, by omega⟩ (fun d j h => fm d j (by omega) (by omega)) (fun d j h => k4 d j (by omega)) (fun H J nm ha hb2 _ => Or.inr ?_)
    obtain ⟨x1, x2, x3, x4⟩ := one J H ha
    refine fm0 H J _ w s c x1 x2 x3 ?_ ?_
    · rw [hb2.1 12 s (by decide) (by decide) (by omega) (by omega)]; exact k3.1
    · rw [x4, hb2.1 15 s (by decide) (by decide) (by omega) (by omega)]; exact k3.2.2.2.symm
  · have two : ∀ u, u = z → wok ((dk_112 K1 u 0 ln 0).bind fun y => some (0, y.2)) (fun _ K => ∃ H s', (rm_to nn F H ∧ rm_fr F H) ∧ eg T n M G0 c0 O N off voff ph cx cb F G i ls cs w s nw ns np (0 :: 0 :: c) t W L P Q H K i ls cs (w + 1) s' nw ns np (0 :: c) ∧ s ≤ s' ∧ s' ≤ s + 2 ∧ H 0 64 = 4294967295) := fun u hu => by
      refine wok_b (cy_112 (d := 0 :: c) k1 k2 (by omega) (by rw [hg_0]; omega) (fun k _ _ h => h) (bz_fr k2)) fun r K2 hK => ?_
      dsimp only
      obtain ⟨l1, l2, l3, l4, l5⟩ := hK
      refine wok_r ⟨H1, s + 2, hgo, ⟨h2, l1, bz_F l2 hbF, ?_, ⟨st_sf_refl _, st_pre_refl _, ⟨fun l _ => ⟨(l4 62 l (by omega)).trans (k4 62 l (by omega)), (l4 65 l (by omega)).trans (k4 65 l (by omega))⟩, fun l _ e6 h6 => (l4 e6 l (by omega)).trans (k4 e6 l (by omega))⟩⟩, Nat.le_refl _, hnp⟩, by omega, by omega, h64⟩
      refine pj_1 ⟨by omega, by omega, by omega, by omega⟩ (fun d j h => fm d j (by omega) (by omega)) (fun d j h => (l4 d j (by omega)).trans (k4 d j (by omega))) (fun H J nm ha hb2 _ => Or.inr ?_)
      obtain ⟨x1, x2, x3, x4⟩ := one J H ha
      refine fm1 H J _ w s c x1 x2 x3 ?_ ?_ ?_
      · rw [hb2.1 12 s (by decide) (by decide) (by omega) (by omega), l4 12 s (by omega)]; exact k3.1
      · rw [x4, hb2.1 15 s (by decide) (by decide) (by omega) (by omega), l4 15 s (by omega)]; exact k3.2.2.2.symm
      · rw [hb2.1 12 (s + 1) (by decide) (by decide) (by omega) (by omega), ← hu]; exact l3.1
    rcases zz0 with ⟨u1, u2⟩ | ⟨u1, u2, u3⟩
    · exact wok_t u2 (two 25 u1.symm)
    · exact wok_f u2 (wok_t u3 (two 26 u1.symm))
/-- an operator of two values -/
theorem op_ar {D k lr y : Nat} (hM : tk_M T n M) (hE : E_ok nn T n M G0 c0 O (D + 1)) (hk : 20 * (22 - (D + 1)) + 20 ≤ k) (htD : t = D) (hD : D ≤ 20) (hr : ry T n M i ls t w nw np ((4, lr, 0, 0) :: W) L P F) (hc : cy T n G0 c0 O i cs s ns np N Q G) (hb : bz N off voff ph cx (0 :: c) np F ls G cs) (hn : 10000 < nn) (hc0 : c0.length ≤ 1400) (hO : O ≤ 20000) (hB : bnd i w s nw ns np t (hg c) ((6, 0, 0, 0) :: (4, 0, 0, 0) :: W) L P Q N)
    (hy : y ∈ bop_l) (hk2 : tk_k T n i = 5 ∧ tk_V T n (tk_pos T n i) = y) (hl : lr < tb_sr (lx_sg y)) :
    wok (dk_149 (dk_R nn k) nn G D) (fun _ K => (∃ i' w' s' nw' ns' np' ls' cs' H, (rm_to nn F H ∧ rm_fr F H) ∧ eg T n M G0 c0 O N off voff ph cx cb F G i ls cs w s nw ns np (0 :: c) t ((4, lr, 0, 0) :: W) L P Q H K i' ls' cs' w' s' nw' ns' np' (0 :: c) ∧ rts i w s nw ns i' w' s' nw' ns' ∧ H 0 64 = 4294967295) ∨ ∃ e p, rm_out nn e p F ∧ sx T n G0 c0 O e p N (zz D) K) := by
  obtain ⟨m1, m2, m3, m4, m5, m6, m7, m8, m9, m10, m11, m12⟩ := hB
  have m8 : W.length + 2 ≤ 20 * t + 20 := m8
  have hi := hr.1.2.2.1
  have hM1 := hM.1
  have hys := bop_sign y hy
  have h57 : G 57 4 = lx_sg y := hc.1.2.1.1.trans ((tk_ty_sign hys.1).mpr hk2)
  have hln : G 57 6 = 1 + lc T (tk_pos T n i) := hc.1.2.1.2.2.1
  have hsg : tb_sg (G 57 4) = tb_sg (lx_sg y) := by rw [h57]
  have hsle := tb_sg_le (lx_sg y)
  have h1 := ry_pop hr
  have hfp : rm_fr F (wq_up F 0 46 W.length) := rm_fr_up (rm_fr_refl _) (by decide) (by decide)
  have hbp : bzF F (wq_up F 0 46 W.length) := bzF_up (bzF_refl _) (by omega)
  have hgo := fun H => ry_go (nn := nn) (H := H) hr (by show W.length < 4000; omega)
  have hba := fun k p => ry_ba (nn := nn) (k := k) (p := p) hr (by show W.length < 4000; omega)
  have h33 : dk_32 nn (wq_up F 0 46 W.length) (4, lr, 0, 0).1 (4, lr, 0, 0).2.1 (4, lr, 0, 0).2.2.1 (4, lr, 0, 0).2.2.2 = dk_212 (pm_la (pm_la (pm_la (wq_up F 0 46 W.length) 4 lr 0 0) 6 y (1 + lc T (tk_pos T n i)) 0) 3 (if tb_sr (lx_sg y) = 9 then 8 else tb_sr (lx_sg y)) 0 0) := (by rw [dk32_4, od_bI] : dk_32 nn (wq_up F 0 46 W.length) 4 lr 0 0 = dk_239 (wq_up F 0 46 W.length) lr).trans (rO_ar hM h1 hy hk2 hl (by omega))
  have hr4 : ry T n M i ls t w nw np ((3, if tb_sr (lx_sg y) = 9 then 8 else tb_sr (lx_sg y), 0, 0) :: (6, y, 1 + lc T (tk_pos T n i), 0) :: (4, lr, 0, 0) :: W) L P (pm_la (pm_la (pm_la (wq_up F 0 46 W.length) 4 lr 0 0) 6 y (1 + lc T (tk_pos T n i)) 0) 3 (if tb_sr (lx_sg y) = 9 then 8 else tb_sr (lx_sg y)) 0 0) := ry_la (ry_la (ry_la h1))
  have hf4 : rm_fr F (pm_la (pm_la (pm_la (wq_up F 0 46 W.length) 4 lr 0 0) 6 y (1 + lc T (tk_pos T n i)) 0) 3 (if tb_sr (lx_sg y) = 9 then 8 else tb_sr (lx_sg y)) 0 0) := rm_fr_la (rm_fr_la (rm_fr_la hfp))
  have hb4 : bzF F (pm_la (pm_la (pm_la (wq_up F 0 46 W.length) 4 lr 0 0) 6 y (1 + lc T (tk_pos T n i)) 0) 3 (if tb_sr (lx_sg y) = 9 then 8 else tb_sr (lx_sg y)) 0 0) := bzF_la (bzF_la (bzF_la hbp))
  have hc4 : ∀ d j, 12 ≤ d ∧ d ≤ 24 → pm_la (pm_la (pm_la (wq_up F 0 46 W.length) 4 lr 0 0) 6 y (1 + lc T (tk_pos T n i)) 0) 3 (if tb_sr (lx_sg y) = 9 then 8 else tb_sr (lx_sg y)) 0 0 d j = F d j := fun d j h => by
    rw [pm_la_ne (by omega) (by omega), pm_la_ne (by omega) (by omega), pm_la_ne (by omega) (by omega), wq_up_cell (by omega)]
  generalize pm_la (pm_la (pm_la (wq_up F 0 46 W.length) 4 lr 0 0) 6 y (1 + lc T (tk_pos T n i)) 0) 3 (if tb_sr (lx_sg y) = 9 then 8 else tb_sr (lx_sg y)) 0 0 = F4 at *
  unfold dk_149
  rw [dkS_145, od_bS]
  dsimp only
  rw [hsg]
  refine wok_b (bt_77 (B := 6200) hM hr4 hc (bz_F hb hb4) (by omega) (by omega) (by omega) hc0 hO (by omega) (by omega) m5 (by omega)) fun r1 K1 h2 => ?_
  dsimp only
  have tl : ∀ (e p B v4 s0 : Nat) (K : wq_F), sx T n G0 c0 O e p N B K → B + 5 ≤ zz D → zz D < 9900 → rm_out nn e p F → wok ((dk_147 K (lx_sg y)).bind fun y5 => (dk_112 y5.2 y5.1 0 (G 57 6) 4294967295).bind fun y9 => if lx_sg y = 67 then (dk_112 y9.2 25 0 (G 57 6) 0).bind fun y19 => some (0, y19.2) else if v4 = 3 then (dk_112 y9.2 26 0 (G 57 6) 0).bind fun y15 => some (0, y15.2) else some (0, y9.2)) (fun _ K => (∃ i' w' s' nw' ns' np' ls' cs' H, (rm_to nn F H ∧ rm_fr F H) ∧ eg T n M G0 c0 O N off voff ph cx cb F G i ls cs w s nw ns np (0 :: c) t ((4, lr, 0, 0) :: W) L P Q H K i' ls' cs' w' s' nw' ns' np' (0 :: c) ∧ rts i w s nw ns i' w' s' nw' ns' ∧ H 0 64 = 4294967295) ∨ ∃ e p, rm_out nn e p F ∧ sx T n G0 c0 O e p N (zz D) K) := fun e p B v4 s0 K h hB hz ho => by
    obtain ⟨g, eg⟩ := dkA_147 K (lx_sg y)
    rw [eg, od_bS]
    dsimp only
    refine wok_b (sx_112 h (by omega)) fun r K h => ?_
    refine wok_i (fun _ => ?_) (fun _ => wok_i (fun _ => ?_) (fun _ => ?_))
    · refine wok_b (sx_112 h (by omega)) fun r K h => ?_
      exact wok_r (Or.inr ⟨e, p, ho, sx_le h (by omega)⟩)
    · refine wok_b (sx_112 h (by omega)) fun r K h => ?_
      exact wok_r (Or.inr ⟨e, p, ho, sx_le h (by omega)⟩)
    · exact wok_r (Or.inr ⟨e, p, ho, sx_le h (by omega)⟩)
  have hz1 : zz (D + 1) + 110 ≤ zz D ∧ zz D < 9900 ∧ 6310 ≤ zz D := by unfold zz; omega
  have main : ∀ s0, lim s0 (if tb_sr (lx_sg y) = 9 then 8 else tb_sr (lx_sg y)) → wok (dk_149_105 (dk_R nn k) nn K1 D (lx_sg y) (G 57 6) (tb_sg (lx_sg y)) s0) (fun _ K => (∃ i' w' s' nw' ns' np' ls' cs' H, (rm_to nn F H ∧ rm_fr F H) ∧ eg T n M G0 c0 O N off voff ph cx cb F G i ls cs w s nw ns np (0 :: c) t ((4, lr, 0, 0) :: W) L P Q H K i' ls' cs' w' s' nw' ns' np' (0 :: c) ∧ rts i w s nw ns i' w' s' nw' ns' ∧ H 0 64 = 4294967295) ∨ ∃ e p, rm_out nn e p F ∧ sx T n G0 c0 O e p N (zz D) K) := fun s0 hlim => by
    unfold dk_149_105
    rw [Nat.mod_eq_of_lt (show D + 1 < 4294967296 by omega)]
    rcases h2 with ⟨iM, e2, ms, c1, b1, f1, p1⟩ | ⟨e2, hx1⟩
    · have hr5 := ry_nx hr4 iM
      have g1 := hgo _ (rgo_i (r := 1) (h33.trans e2) (by decide) hr5.1.1 (rm_fr_up hf4 (by decide) (by decide)))
      have b5 : bz N off voff ph cx (0 :: c) np (wq_up F4 0 25 (i + 1)) ls K1 ms := bz_fu b1 (by omega)
      have hc5 : ∀ d j, 12 ≤ d ∧ d ≤ 24 → wq_up F4 0 25 (i + 1) d j = F d j := fun d j h => (wq_up_cell (by omega)).trans (hc4 d j h)
      generalize wq_up F4 0 25 (i + 1) = F5 at *
      have eg1 : eg T n M G0 c0 O N off voff ph cx cb F G i ls cs w s nw ns np (0 :: c) t _ L P Q F5 K1 (i + 1) ls ms w s nw ns np (0 :: c) := eg_n hr5 c1 b5 (fun d j h => hc5 d j (by omega)) (qf_fr f1) p1 (by omega) m5
      refine wok_b (hE k s0 _ (i + 1) t w s nw ns np N off voff ph cx (0 :: c) cb ((6, y, 1 + lc T (tk_pos T n i), 0) :: (4, lr, 0, 0) :: W) L P Q ls ms F5 K1 hk hlim (by omega) hr5 c1 b5 ⟨by omega, by omega, by omega, by omega, m5, m6, by rw [hg_0]; omega, by show W.length + 2 ≤ _; omega, m9, m10, m11, m12⟩) fun r4 K4 h4 => ?_
      dsimp only
      rcases h4 with ⟨i', w', s', nw', ns', np', ls', cs', F6, g2, eg2, rt, _⟩ | ⟨e, p, ho, hx4⟩
      · obtain ⟨rt1, rt2, rt3, rt4, rt5⟩ := rt
        have hi' := eg2.1.1.2.2.1
        have hnp' := eg2.2.2.2.2.2.2
        rw [hln]
        refine wok_m (bin_step (nn := nn) (cb := cb) eg2.1 eg2.2.1 eg2.2.2.1 hy (by omega) (by omega) (by show W.length + 1 < 3990; omega) (by omega) hnp') fun r K ⟨H, s'', g3, eg3, q1, q2, q3⟩ => ?_
        exact Or.inl ⟨i', w' + 1, s'', nw', ns', np', ls', cs', H, ⟨rm_trans g1.1 (rm_trans g2.1 g3.1), rm_fr_trans g1.2 (rm_fr_trans g2.2 g3.2)⟩, eg_t (eg_t eg1 eg2 hb.2.2.2.2.2.1) eg3 hb.2.2.2.2.2.1, ⟨by omega, by omega, by omega, by omega, by omega⟩, q3⟩
      · exact tl _ _ _ _ 0 _ hx4 (by omega) (by omega) (rm_to_out g1.1 g1.2 ho)
    · refine wok_b (sx_148 hx1 (by omega)) fun r K h => ?_
      exact tl _ _ _ _ 0 _ h.2 (by omega) (by omega) (hba _ _ (rba_f (h33.trans e2) hf4 (by rw [hr4.2.1.2.1]; omega)))
  rw [h57]
  refine wok_f hys.2.2.1 (wok_f hys.2.2.2 (wok_i (fun q => wok_l ?_) (fun q => ?_)))
  · refine main _ ?_
    rw [q]
    unfold tb_sr lim
    rw [q]
    decide
  · refine main _ ?_
    unfold tb_sr lim
    by_cases q8 : 8 ≤ tb_sg (lx_sg y)
    · rw [if_pos q8, if_neg (by omega)]
      omega
    · rw [if_neg q8, if_neg (by omega)]
      omega
end
