/-! ===== 99v: an operator and its right side (wip/whole2/law99v.py) ===== -/
theorem tb_sg_w : ∀ v ∈ [1, 2, 3, 4, 5, 6, 7, 8, 9, 10, 11, 12, 13, 14, 15, 16, 17, 18, 19, 20, 21], ¬ tb_sg (9 + v) = 0 → v = 1 ∨ v = 15 := by decide
theorem tb_sg_s : ∀ v ∈ lx_signs, ¬ tb_sg (lx_sg v) = 0 → v ∈ bop_l := by decide
theorem bop_sign : ∀ v ∈ bop_l, v ∈ lx_signs ∧ 3 ≤ tb_sg (lx_sg v) ∧ ¬ lx_sg v = 10 ∧ ¬ lx_sg v = 24 := by decide
theorem tb_sg_cases {T : Nat → Nat} {n p : Nat} (h : ¬ tb_sg (tk_ty T n p) = 0) : (tk_K T n p = 4 ∧ (tk_V T n p = 1 ∨ tk_V T n p = 15)) ∨ (tk_K T n p = 5 ∧ tk_V T n p ∈ bop_l) := by
  rcases tk_ty_all (T := T) (n := n) (p := p) with e | e | e | e | e | e | e
  · rw [e.2] at h; exact absurd rfl h
  · rw [e.2] at h; exact absurd rfl h
  · rw [e.2] at h; exact absurd rfl h
  · rw [e.2.1] at h
    refine Or.inl ⟨e.1, tb_sg_w _ ?_ h⟩
    have h1 := e.2.2.1
    have h2 := e.2.2.2
    generalize tk_V T n p = v at *
    rcases (show v = 1 ∨ v = 2 ∨ v = 3 ∨ v = 4 ∨ v = 5 ∨ v = 6 ∨ v = 7 ∨ v = 8 ∨ v = 9 ∨ v = 10 ∨ v = 11 ∨ v = 12 ∨ v = 13 ∨ v = 14 ∨ v = 15 ∨ v = 16 ∨ v = 17 ∨ v = 18 ∨ v = 19 ∨ v = 20 ∨ v = 21 by omega) with q | q | q | q | q | q | q | q | q | q | q | q | q | q | q | q | q | q | q | q | q <;> (rw [q]; decide)
  · rw [e.2.1] at h
    exact Or.inr ⟨e.1, tb_sg_s _ e.2.2.1 h⟩
  · rw [e.2] at h; exact absurd rfl h
  · rw [e.2] at h; exact absurd rfl h
section
variable {nn : Nat} {T : Nat → Nat} {n M O : Nat} {G0 : wq_F} {c0 : List (List Nat)} {i t w s nw ns np N : Nat} {off voff ph : Nat → Nat} {cx : Nat → List Nat} {c cb : List Nat} {W : List (Nat × Nat × Nat × Nat)} {L : List (Nat × Nat)} {P Q : List (Nat × Nat × Nat)} {ls cs : List (List Nat)} {F G : wq_F}

/-- the reference at an operator -/
theorem rO_no {lr : Nat} (hM : tk_M T n M) (hr : ry T n M i ls t w nw np W L P F) (h : ¬ lr < tb_sr (tk_ty T n (tk_pos T n i))) (hl : lr < 100) : dk_239 F lr = some (1, F) := by
  have hsr : tb_sr (tk_ty T n (tk_pos T n i)) < 100 := by
    have := tb_sg_le (tk_ty T n (tk_pos T n i))
    unfold tb_sr
    exact wd_ite (by omega) (by omega)
  unfold dk_239
  rw [dkS_235 hM hr.1, od_bS]
  dsimp only
  rw [if_neg (fun z => h ((wd_slt (by omega) (by omega)).mp z))]
theorem rO_and {lr x o v : Nat} (hM : tk_M T n M) (hr : ry T n M i ls t w nw np W L P F) (hx : (x = 1 ∧ o = 24 ∧ v = 15) ∨ (x = 2 ∧ o = 23 ∧ v = 1)) (hk : tk_k T n i = 4 ∧ tk_V T n (tk_pos T n i) = v) (hl : lr < x) (hW : W.length < 3990) (hw : w < 13990) : dk_239 F lr = dk_212 (pm_la (pm_la (pm_la (pm_em F o 0 0 0) 4 lr 0 0) 6 x (1 + lc T (tk_pos T n i)) w) 3 x 0 0) := by
  have h46 : F 0 46 = W.length := hr.2.2.1.1
  have h41 : F 0 41 = w := hr.2.1.2.1
  have hty : tb_sr (tk_ty T n (tk_pos T n i)) = x := by
    rcases hx with ⟨e1, e2, e3⟩ | ⟨e1, e2, e3⟩
    · rw [(tk_ty_word (w := 15) (by decide)).mpr ⟨hk.1, hk.2.trans e3⟩, e1]
      decide
    · rw [(tk_ty_word (w := 1) (by decide)).mpr ⟨hk.1, hk.2.trans e3⟩, e1]
      decide
  have e46 : (pm_em F o 0 0 0) 0 46 = W.length := (pm_em_ne (by omega) (by decide)).trans h46
  have e76 : ∀ y z u v', ¬ y = 9 → dk_239_76 (pm_em F o 0 0 0) lr y z u v' = dk_212 (pm_la (pm_la (pm_la (pm_em F o 0 0 0) 4 lr 0 0) 6 u z v') 3 y 0 0) := fun y z u v' hy => by
    unfold dk_239_76
    rw [dkS_31 (by omega), od_bS]
    dsimp only
    rw [dkS_31 (by rw [pm_la_at.2.2.2.2]; omega), od_bS]
    dsimp only
    rw [if_neg hy, dkS_31 (by rw [pm_la_at.2.2.2.2, pm_la_at.2.2.2.2]; omega), od_bS]
    dsimp only
    rw [od_bI]
  unfold dk_239
  rw [dkS_235 hM hr.1, od_bS]
  dsimp only
  rw [hty, if_pos ((wd_slt (by omega) (by omega)).mpr hl), pm_line hM hr.1, od_bS]
  dsimp only
  rcases hx with ⟨e1, e2, e3⟩ | ⟨e1, e2, e3⟩
  · subst e1
    subst e2
    rw [if_pos rfl]
    unfold dk_239_45
    rw [if_pos (by decide), if_pos rfl, dkS_30 (by omega), od_bS]
    dsimp only
    rw [h41]
    exact e76 1 _ 1 w (by decide)
  · subst e1
    subst e2
    rw [if_neg (by decide), if_pos rfl]
    unfold dk_239_45
    rw [if_pos (by decide), if_neg (by decide), dkS_30 (by omega), od_bS]
    dsimp only
    rw [h41]
    exact e76 2 _ 2 w (by decide)
theorem rO_ar {lr y : Nat} (hM : tk_M T n M) (hr : ry T n M i ls t w nw np W L P F) (hy : y ∈ bop_l) (hk : tk_k T n i = 5 ∧ tk_V T n (tk_pos T n i) = y) (hl : lr < tb_sr (lx_sg y)) (hW : W.length < 3990) : dk_239 F lr = dk_212 (pm_la (pm_la (pm_la F 4 lr 0 0) 6 y (1 + lc T (tk_pos T n i)) 0) 3 (if tb_sr (lx_sg y) = 9 then 8 else tb_sr (lx_sg y)) 0 0) := by
  have h46 : F 0 46 = W.length := hr.2.2.1.1
  have hb := bop_sign y hy
  have hty : tk_ty T n (tk_pos T n i) = lx_sg y := (tk_ty_sign hb.1).mpr hk
  have hsg := tb_sg_le (lx_sg y)
  have hsr : 3 ≤ tb_sr (lx_sg y) ∧ tb_sr (lx_sg y) < 100 := by
    unfold tb_sr
    by_cases q : 8 ≤ tb_sg (lx_sg y)
    · rw [if_pos q]; omega
    · rw [if_neg q]; omega
  have hv := tb_sgl y hb.1
  unfold dk_239
  rw [dkS_235 hM hr.1, od_bS]
  dsimp only
  rw [hty, if_pos ((wd_slt (by omega) (by omega)).mpr hl), pm_line hM hr.1, od_bS]
  dsimp only
  rw [if_neg (by omega), if_neg (by omega), od_g1 (pm_b hM hr.1), od_letS, tk_Vm hr.1 (Or.inr hk.1), hk.2, tb_l2i (by omega)]
  unfold dk_239_45
  rw [if_neg (fun z => absurd ((wd_slt (by omega) (by decide)).mp z) (by omega))]
  unfold dk_239_76
  rw [dkS_31 (by omega), od_bS]
  dsimp only
  rw [dkS_31 (by rw [pm_la_at.2.2.2.2]; omega), od_bS]
  dsimp only
  by_cases q : tb_sr (lx_sg y) = 9
  · rw [if_pos q, if_pos q, dkS_31 (by rw [pm_la_at.2.2.2.2, pm_la_at.2.2.2.2]; omega), od_bS]
    dsimp only
    rw [od_bI]
  · rw [if_neg q, if_neg q, dkS_31 (by rw [pm_la_at.2.2.2.2, pm_la_at.2.2.2.2]; omega), od_bS]
    dsimp only
    rw [od_bI]
/-- and, or -/
theorem op_and {D k lr x o v : Nat} (hM : tk_M T n M) (hE : E_ok nn T n M G0 c0 O (D + 1)) (hk : 20 * (22 - (D + 1)) + 20 ≤ k) (htD : t = D) (hD : D ≤ 20) (hr : ry T n M i ls t w nw np ((4, lr, 0, 0) :: W) L P F) (hc : cy T n G0 c0 O i cs s ns np N Q G) (hb : bz N off voff ph cx (0 :: c) np F ls G cs) (hn : 10000 < nn) (hc0 : c0.length ≤ 1400) (hO : O ≤ 20000) (hB : bnd i w s nw ns np t (hg c) ((6, 0, 0, 0) :: (4, 0, 0, 0) :: W) L P Q N)
    (hx : (x = 1 ∧ o = 24 ∧ v = 15) ∨ (x = 2 ∧ o = 23 ∧ v = 1)) (hk2 : tk_k T n i = 4 ∧ tk_V T n (tk_pos T n i) = v) (hl : lr < x) :
    wok (dk_149 (dk_R nn k) nn G D) (fun _ K => (∃ i' w' s' nw' ns' np' ls' cs' H, (rm_to nn F H ∧ rm_fr F H) ∧ eg T n M G0 c0 O N off voff ph cx cb F G i ls cs w s nw ns np (0 :: c) t ((4, lr, 0, 0) :: W) L P Q H K i' ls' cs' w' s' nw' ns' np' (0 :: c) ∧ rts i w s nw ns i' w' s' nw' ns' ∧ H 0 64 = 4294967295) ∨ ∃ e p, rm_out nn e p F ∧ sx T n G0 c0 O e p N (zz D) K) := by
  obtain ⟨m1, m2, m3, m4, m5, m6, m7, m8, m9, m10, m11, m12⟩ := hB
  have m8 : W.length + 2 ≤ 20 * t + 20 := m8
  have hi := hr.1.2.2.1
  have hM1 := hM.1
  have hv : v = 1 ∨ v = 15 := by omega
  have h57 : G 57 4 = 9 + v := hc.1.2.1.1.trans ((tk_ty_word (by omega)).mpr hk2)
  have hln : G 57 6 = 1 + lc T (tk_pos T n i) := hc.1.2.1.2.2.1
  have hsg : tb_sg (G 57 4) = x := by
    rw [h57]
    rcases hx with ⟨e1, e2, e3⟩ | ⟨e1, e2, e3⟩ <;> (rw [e1, e3]; decide)
  have h1 := ry_pop hr
  have hfp : rm_fr F (wq_up F 0 46 W.length) := rm_fr_up (rm_fr_refl _) (by decide) (by decide)
  have hbp : bzF F (wq_up F 0 46 W.length) := bzF_up (bzF_refl _) (by omega)
  have hcp : ∀ d j, ¬ d = 0 → wq_up F 0 46 W.length d j = F d j := fun d j h => wq_up_cell h
  have h32 : dk_32 nn (wq_up F 0 46 W.length) 4 lr 0 0 = dk_239 (wq_up F 0 46 W.length) lr := by rw [dk32_4, od_bI]
  have hgo := ry_go (nn := nn) (H := wq_up (pm_la (pm_la (pm_la (pm_em (wq_up F 0 46 W.length) o 0 0 0) 4 lr 0 0) 6 x (1 + lc T (tk_pos T n i)) w) 3 x 0 0) 0 25 (i + 1)) hr (by show W.length < 4000; omega)
  have hba := fun k p => ry_ba (nn := nn) (k := k) (p := p) hr (by show W.length < 4000; omega)
  have h33 : dk_32 nn (wq_up F 0 46 W.length) (4, lr, 0, 0).1 (4, lr, 0, 0).2.1 (4, lr, 0, 0).2.2.1 (4, lr, 0, 0).2.2.2 = dk_212 (pm_la (pm_la (pm_la (pm_em (wq_up F 0 46 W.length) o 0 0 0) 4 lr 0 0) 6 x (1 + lc T (tk_pos T n i)) w) 3 x 0 0) := h32.trans (rO_and hM h1 hx hk2 hl (by omega) (by omega))
  have hw1 : wq_up F 0 46 W.length 0 41 = w := h1.2.1.2.1
  have hat := pm_em_at (F := wq_up F 0 46 W.length) (op := o) (a := 0) (b := 0) (ln := 0)
  rw [hw1] at hat
  have hr4 : ry T n M i ls t (w + 1) nw np ((3, x, 0, 0) :: (6, x, 1 + lc T (tk_pos T n i), w) :: (4, lr, 0, 0) :: W) L P (pm_la (pm_la (pm_la (pm_em (wq_up F 0 46 W.length) o 0 0 0) 4 lr 0 0) 6 x (1 + lc T (tk_pos T n i)) w) 3 x 0 0) := ry_la (ry_la (ry_la (ry_em h1)))
  have hf4 : rm_fr F (pm_la (pm_la (pm_la (pm_em (wq_up F 0 46 W.length) o 0 0 0) 4 lr 0 0) 6 x (1 + lc T (tk_pos T n i)) w) 3 x 0 0) := rm_fr_la (rm_fr_la (rm_fr_la (rm_fr_em hfp)))
  have hb4 : bzF F (pm_la (pm_la (pm_la (pm_em (wq_up F 0 46 W.length) o 0 0 0) 4 lr 0 0) 6 x (1 + lc T (tk_pos T n i)) w) 3 x 0 0) := bzF_la (bzF_la (bzF_la (bzF_em hbp)))
  have hc4 : ∀ d j, 12 ≤ d ∧ d ≤ 24 → pm_la (pm_la (pm_la (pm_em (wq_up F 0 46 W.length) o 0 0 0) 4 lr 0 0) 6 x (1 + lc T (tk_pos T n i)) w) 3 x 0 0 d j = pm_em (wq_up F 0 46 W.length) o 0 0 0 d j := fun d j h => by
    rw [pm_la_ne (by omega) (by omega), pm_la_ne (by omega) (by omega), pm_la_ne (by omega) (by omega)]
  generalize pm_la (pm_la (pm_la (pm_em (wq_up F 0 46 W.length) o 0 0 0) 4 lr 0 0) 6 x (1 + lc T (tk_pos T n i)) w) 3 x 0 0 = F4 at *
  have hc4n : ∀ d j, 12 ≤ d ∧ d ≤ 24 → ¬ (20 ≤ d ∧ d ≤ 23 ∧ j = w) → F4 d j = F d j := fun d j h h2 => by
    rw [hc4 d j h, pm_em_ne (by omega) (by omega), hcp d j (by omega)]
  unfold dk_149
  rw [dkS_145, od_bS]
  dsimp only
  rw [hsg]
  refine wok_b (bt_77 (B := 6200) hM hr4 hc (bz_F hb hb4) (by omega) (by omega) (by omega) hc0 hO (by omega) (by omega) m5 (by omega)) fun r1 K1 h2 => ?_
  have tl : ∀ (e p B : Nat) (K : wq_F), sx T n G0 c0 O e p N B K → B ≤ 6300 → rm_out nn e p F → wok (dk_149_52 (dk_R nn k) nn K D (G 57 6) x o) (fun _ K => (∃ i' w' s' nw' ns' np' ls' cs' H, (rm_to nn F H ∧ rm_fr F H) ∧ eg T n M G0 c0 O N off voff ph cx cb F G i ls cs w s nw ns np (0 :: c) t ((4, lr, 0, 0) :: W) L P Q H K i' ls' cs' w' s' nw' ns' np' (0 :: c) ∧ rts i w s nw ns i' w' s' nw' ns' ∧ H 0 64 = 4294967295) ∨ ∃ e p, rm_out nn e p F ∧ sx T n G0 c0 O e p N (zz D) K) := fun e p B K h hB ho => by
    unfold dk_149_52
    refine wok_b (sx_78 h (by omega) (okj_n (by decide))) fun r K h => ?_
    refine wok_b (sx_163 h.2) fun r' K h' => ?_
    refine wok_b (sx_148 h' (by omega)) fun r' K h' => ?_
    refine wok_b (sx_159 h'.2 (by omega) (okj_p h.1) hn) fun r' K h' => ?_
    exact wok_r (Or.inr ⟨e, p, ho, sx_le h' (by unfold zz; omega)⟩)
  have sel : wok (dk_149_52 (dk_R nn k) nn K1 D (G 57 6) x o) (fun _ K => (∃ i' w' s' nw' ns' np' ls' cs' H, (rm_to nn F H ∧ rm_fr F H) ∧ eg T n M G0 c0 O N off voff ph cx cb F G i ls cs w s nw ns np (0 :: c) t ((4, lr, 0, 0) :: W) L P Q H K i' ls' cs' w' s' nw' ns' np' (0 :: c) ∧ rts i w s nw ns i' w' s' nw' ns' ∧ H 0 64 = 4294967295) ∨ ∃ e p, rm_out nn e p F ∧ sx T n G0 c0 O e p N (zz D) K) → wok (if G 57 4 = 10 then if G 57 4 = 10 then dk_149_52 (dk_R nn k) nn K1 D (G 57 6) x 23 else dk_149_52 (dk_R nn k) nn K1 D (G 57 6) x 24 else if G 57 4 = 24 then if G 57 4 = 10 then dk_149_52 (dk_R nn k) nn K1 D (G 57 6) x 23 else dk_149_52 (dk_R nn k) nn K1 D (G 57 6) x 24 else if x = 8 then od_let ((x + (4294967296 - 1)) % 4294967296) fun y13 => dk_149_105 (dk_R nn k) nn K1 D (G 57 4) (G 57 6) x y13 else dk_149_105 (dk_R nn k) nn K1 D (G 57 4) (G 57 6) x x) (fun _ K => (∃ i' w' s' nw' ns' np' ls' cs' H, (rm_to nn F H ∧ rm_fr F H) ∧ eg T n M G0 c0 O N off voff ph cx cb F G i ls cs w s nw ns np (0 :: c) t ((4, lr, 0, 0) :: W) L P Q H K i' ls' cs' w' s' nw' ns' np' (0 :: c) ∧ rts i w s nw ns i' w' s' nw' ns' ∧ H 0 64 = 4294967295) ∨ ∃ e p, rm_out nn e p F ∧ sx T n G0 c0 O e p N (zz D) K) := fun h => by
    rcases hx with ⟨e1, e2, e3⟩ | ⟨e1, e2, e3⟩
    · rw [e2] at h
      exact wok_f (by omega) (wok_t (by omega) (wok_f (by omega) h))
    · rw [e2] at h
      exact wok_t (by omega) (wok_t (by omega) h)
  refine sel ?_
  rcases h2 with ⟨iM, e2, ms, c1, b1, f1, p1⟩ | ⟨e2, hx1⟩
  · have hr5 := ry_nx hr4 iM
    have g1 := hgo (rgo_i (r := 1) (h33.trans e2) (by decide) hr5.1.1 (rm_fr_up hf4 (by decide) (by decide)))
    have b5 : bz N off voff ph cx (0 :: c) np (wq_up F4 0 25 (i + 1)) ls K1 ms := bz_fu b1 (by omega)
    have hc5 : ∀ d j, 12 ≤ d ∧ d ≤ 24 → wq_up F4 0 25 (i + 1) d j = F4 d j := fun d j h => wq_up_cell (by omega)
    generalize wq_up F4 0 25 (i + 1) = F5 at *
    unfold dk_149_52
    refine wok_b (cy_78 c1 b5 (by omega) (okj_n (by decide))) fun r2 K2 h3 => ?_
    obtain ⟨er, c2, b2, i2, q2, _⟩ := h3
    subst er
    refine wok_b (cy_163 (d := c) c2 b2 (by rw [hg_0]; omega) (fun k _ _ h => cx_at_dn (a := [0]) (fun e he => by rw [List.mem_singleton.mp he]; decide) h) (bz_cd b2 (a := [0]) rfl)) fun r3 K3 h3 => ?_
    obtain ⟨c3, b3, q3, _⟩ := h3
    have q13 : qf r2 ns G K3 := qf_trans (qf_trans (qf_fr f1) q2 (Nat.le_refl _) (Nat.le_refl _)) q3 (Nat.le_succ _) (Nat.le_refl _)
    have i3 : cI K3 r2 o 0 4294967295 (G 57 6) := ⟨(q3 12 r2 (by omega)).trans i2.1, (q3 13 r2 (by omega)).trans i2.2.1, (q3 14 r2 (by omega)).trans i2.2.2.1, (q3 15 r2 (by omega)).trans i2.2.2.2⟩
    dsimp only
    rw [Nat.mod_eq_of_lt (show D + 1 < 4294967296 by omega)]
    refine wok_b (hE k x x (i + 1) t (w + 1) (r2 + 1) nw ns np N off voff ph cx c cb ((6, x, 1 + lc T (tk_pos T n i), w) :: (4, lr, 0, 0) :: W) L P Q ls ms F5 K3 hk (Or.inl ⟨rfl, by omega⟩) (by omega) hr5 c3 b3 ⟨by omega, by omega, by omega, by omega, m5, m6, by omega, by show W.length + 2 ≤ _; omega, m9, m10, m11, m12⟩) fun r4 K4 h4 => ?_
    rcases h4 with ⟨i', w', s', nw', ns', np', ls', cs', F6, g2, ⟨hr6, c6, b6, j6, ⟨a6, a7, a8⟩, a9, a10⟩, rt, _⟩ | ⟨e, p, ho, hx4⟩
    · obtain ⟨rt1, rt2, rt3, rt4, rt5⟩ := rt
      have h7 := ry_pop hr6
      have hi' := hr6.1.2.2.1
      have ew' : F6 0 41 = w' := hr6.2.1.2.1
      obtain ⟨⟨y1, y2, y3, y4, y5⟩, kA, kB, _, sm⟩ := j6
      have k14 : K4 14 r2 = 4294967295 := (kB.1 14 r2 (by decide) (by decide) (by omega)).trans i3.2.2.1
      have hs' : K4 11 4 = s' := c6.2.1.1
      have hjc : jc (K4 14) r2 10000 [r2] := ⟨rfl, by omega, by
        show 2147483648 ≤ K4 14 r2 ∧ K4 14 r2 < 4294967296
        omega⟩
      refine wok_b (A := fun _ K => K = jl_up K4 14 [r2] (K4 11 4)) (wok_e (dkS_159 hjc hn) rfl) fun r5 K5 e5 => ?_
      dsimp only
      rw [hs'] at e5
      have hlv : lvl N K3 = lvl N G := lvl_eq (fun l hl => q13 62 l (by omega))
      have hN := b6.1.1.1
      have hfn : K3 62 (N - 1) = G 62 (N - 1) := q13 62 _ (by omega)
      rw [hlv] at kA kB
      rw [hfn] at sm
      have e7 : dk_32 nn (wq_up F6 0 46 (W.length + 1)) 6 x (1 + lc T (tk_pos T n i)) w = some (1, wq_up (wq_up (wq_up F6 0 46 (W.length + 1)) 0 64 4294967295) 21 w w') := by
        rw [dk32_6]
        unfold dk_241
        rw [od_upS, if_pos (by rcases hx with ⟨z, _⟩ | ⟨z, _⟩ <;> (rw [z]; decide)), od_g1 (by omega), od_upS, wq_up_at (show (41 : Nat) ≠ 64 by decide), wq_up_at (show (41 : Nat) ≠ 46 by decide), ew', od_bS]
      have hr8 : ry T n M i' ls' t w' nw' np' ((4, lr, 0, 0) :: W) L P (wq_up (wq_up (wq_up F6 0 46 (W.length + 1)) 0 64 4294967295) 21 w w') := ry_up (ry_up h7 (by unfold ry_n; omega)) (by unfold ry_n; omega)
      have g8 := ry_go (nn := nn) hr6 (by show W.length + 1 < 4000; omega) (rgo_i e7 (by decide) hr8.1.1 (rm_fr_up (rm_fr_up (rm_fr_up (rm_fr_refl _) (by decide) (by decide)) (by decide) (by decide)) (by decide) (fun z => absurd z (by decide))))
      have b8 : bz N off voff ph cx (0 :: c) np' (wq_up (wq_up (wq_up F6 0 46 (W.length + 1)) 0 64 4294967295) 21 w w') ls' K5 cs' := by
        rw [e5]
        exact bz_G (bz_fu (bz_fu (bz_fu b6 (by omega)) (by omega)) (by omega)) (bzG_jl (bzG_refl _)) (fun l _ => jl_ne (by omega))
      have h8 : ∀ d j, ¬ d = 0 → ¬ (d = 21 ∧ j = w) → wq_up (wq_up (wq_up F6 0 46 (W.length + 1)) 0 64 4294967295) 21 w w' d j = F6 d j := fun d j q1 q2 => by
        rw [wq_up_ne q2, wq_up_cell q1, wq_up_cell q1]
      have h21 : wq_up (wq_up (wq_up F6 0 46 (W.length + 1)) 0 64 4294967295) 21 w w' 21 w = w' := wq_up_same _ _ _ _
      have h64 : wq_up (wq_up (wq_up F6 0 46 (W.length + 1)) 0 64 4294967295) 21 w w' 0 64 = 4294967295 := by
        rw [wq_up_cell (by decide), wq_up_same]
      have k5 : ∀ d j, ¬ (d = 14 ∧ j = r2) → K5 d j = K4 d j := fun d j q => by
        rw [e5]
        exact jl_ne (fun z => q ⟨z.1, List.mem_singleton.mp z.2⟩)
      have k5s : K5 14 r2 = s' := by
        rw [e5]
        exact jl_at (List.mem_singleton.mpr rfl)
      have c8 : cy T n G0 c0 O i' cs' s' ns' np' N Q K5 := by
        rw [e5]
        exact cy_jl c6 (okj_p (by omega))
      generalize wq_up (wq_up (wq_up F6 0 46 (W.length + 1)) 0 64 4294967295) 21 w w' = F8 at *
      refine wok_r (Or.inl ⟨i', w', s', nw', ns', np', ls', cs', F8, ⟨rm_trans g1.1 (rm_trans g2.1 g8.1), rm_fr_trans g1.2 (rm_fr_trans g2.2 g8.2)⟩, ⟨hr8, c8, b8, ⟨⟨by omega, by omega, by omega, by omega, by omega⟩, ?_, ?_, ⟨fun j hj => absurd hj (List.not_mem_nil), fun j hj => absurd hj (List.not_mem_nil)⟩, ?_⟩, ⟨a6, st_pre_trans p1 a7, ?_⟩, by omega, a10⟩, ⟨by omega, by omega, by omega, by omega, by omega⟩, h64⟩)
      · refine ka_trans (ka_trans (v := w + 1) (nv := nw) (k := np) (ka_x fun d j q => (hc5 d j (by omega)).trans (hc4n d j (by omega) (by omega))) kA (by omega) (by omega) (by omega)) (v := w) (nv := nw) (k := np) (ka_x fun d j q => h8 d j (by omega) (by omega)) (by omega) (by omega) (by omega)
      · refine kb_trans (kb_trans (v := r2 + 1) (nv := ns) (k := np) (kb_x fun d j q => q13 d j (by omega)) kB (by omega) (by omega) (by omega)) (v := r2) (nv := ns) (k := np) (kb_x fun d j q => k5 d j (by omega)) (by omega) (by omega) (by omega)
      · intro H J nm X wb sb e1 e2 e3 _ _ e6
        rw [jl_nil] at e1 e2
        have x1 : H 20 w = o := by
          rw [e1.1 20 w (by decide) (by decide) (by omega) (by omega), h8 20 w (by decide) (by omega), kA.1 20 w (by decide) (by decide) (by omega), hc5 20 w (by decide), hc4 20 w (by decide)]
          exact hat.1
        have x2 : H 21 w = w' := (e1.1 21 w (by decide) (by decide) (by omega) (by omega)).trans h21
        have x3 : J 12 r2 = o := by
          rw [e2.1 12 r2 (by decide) (by decide) (by omega) (by omega), k5 12 r2 (by omega), kB.1 12 r2 (by decide) (by decide) (by omega)]
          exact i3.1
        have x4 : J 14 r2 = s' := (e2.1 14 r2 (by decide) (by decide) (by omega) (by omega)).trans k5s
        refine sg_s (l := [(G 62 (N - 1), w + 1, r2 + 1, c), (G 62 (N - 1), w', s', 0 :: c)]) (Or.inl ⟨26, ?_⟩) (fun v hv => ?_)
        · refine ⟨by show H 20 w = 23 ∨ H 20 w = 24; omega, x3.trans x1.symm, by show w < H 21 w; omega, c, rfl, ?_⟩
          show _ = [(G 62 (N - 1), w + 1, r2 + 1, c), (G 62 (N - 1), H 21 w, J 14 r2, 0 :: c)]
          rw [x2, x4]
        · rcases List.mem_cons.mp hv with z | z
          · rw [z]
            refine sm H J nm X wb sb ?_ ?_ e3 (fun j hj => absurd hj (List.not_mem_nil)) (fun z => absurd rfl z) e6
            · rw [jl_nil]
              exact ⟨fun d p q1 q2 q3 q4 => (e1.1 d p q1 q2 (by omega) q4).trans (h8 d p (by omega) (by omega)), fun k q1 q2 => (e1.2.1 k q1 q2).trans (h8 24 k (by decide) (by omega)), fun g q1 q2 => by
                have y := e1.2.2.1 g q1 q2
                rw [h8 12 g (by decide) (by omega), h8 13 g (by decide) (by omega), h8 15 g (by decide) (by omega), h8 16 g (by decide) (by omega)] at y
                refine ⟨y.1, fun k hk => ?_⟩
                have y2 := y.2 k hk
                rw [h8 18 _ (by decide) (by omega), h8 19 _ (by decide) (by omega)] at y2
                exact y2, by rw [← h8 15 _ (by decide) (by omega)]; exact e1.2.2.2⟩
            · rw [jl_nil]
              exact ⟨fun d p q1 q2 q3 q4 => (e2.1 d p q1 q2 (by omega) q4).trans (k5 d p (by omega)), fun k q1 q2 => (e2.2.1 k q1 q2).trans (k5 16 k (by omega)), fun g q1 q2 => by
                have y := e2.2.2 g q1 q2
                rw [k5 17 g (by omega), k5 18 g (by omega), k5 20 g (by omega), k5 22 g (by omega)] at y
                refine ⟨y.1, fun k hk => ?_⟩
                have y2 := y.2 k hk
                rw [k5 23 _ (by omega)] at y2
                exact y2⟩
          · rw [List.mem_singleton.mp z]
            exact e6
      · exact lk_t (lk_t ⟨fun l _ => ⟨q13 62 l (by omega), q13 65 l (by omega)⟩, fun l _ e6 h6 => q13 e6 l (by omega)⟩ a8) ⟨fun l _ => ⟨k5 62 l (by omega), k5 65 l (by omega)⟩, fun l _ e6 h6 => k5 e6 l (by omega)⟩
    · have tl2 : sx T n G0 c0 O e p N (zz (D + 1) + 70) K4 := hx4
      refine wok_b (sx_159 tl2 (by unfold zz; omega) (okj_p (by omega)) hn) fun r5 K5 h5 => ?_
      exact wok_r (Or.inr ⟨e, p, rm_to_out g1.1 g1.2 ho, sx_le h5 (by unfold zz; omega)⟩)
  · exact tl _ _ _ _ hx1 (by decide) (hba _ _ (rba_f (h33.trans e2) hf4 (by rw [hr4.2.1.2.1]; omega)))
end
