/-! ===== a35: return (wip/whole2/lawa35.py) ===== -/
theorem dk32_37b {nn x y z : Nat} {F : wq_F} : dk_32 nn F 37 x y z = dk_271 F x := by
  rw [(dk32_37 (nn := nn) (F := F) (x := x) (y := y) (z := z)).1, od_bI, (dk32_37 (nn := nn) (F := F) (x := x) (y := y) (z := z)).2, od_bI]
section
variable {nn : Nat} {T : Nat → Nat} {n M O : Nat} {G0 : wq_F} {c0 : List (List Nat)} {i t w s nw ns np N : Nat} {off voff ph : Nat → Nat} {cx : Nat → List Nat} {c cb : List Nat} {W : List (Nat × Nat × Nat × Nat)} {L : List (Nat × Nat)} {P Q : List (Nat × Nat × Nat)} {ls cs : List (List Nat)} {F G : wq_F}

theorem sx_117 {R : dk_Rt} {e p B v2 v3 : Nat} (h : sx T n G0 c0 O e p N B G) (hB : B < 10000) : wok (dk_117_42 R nn G v2 v3) (fun _ K => sx T n G0 c0 O e p N (B + 1) K) := by
  unfold dk_117_42
  refine wok_b (sx_78 h hB (okj_p (by decide))) fun r K h => ?_
  refine wok_b (sx_162 h.2) fun r K h => ?_
  exact wok_b (sx_111 h (by decide)) fun r K h => wok_r h.2
theorem ret_ok {D k : Nat} (hM : tk_M T n M) (hn : 10000 < nn) (hc0 : c0.length ≤ 1400) (hO : O ≤ 20000) (hE : E_ok nn T n M G0 c0 O D) (hk : 20 * (22 - D) + 22 ≤ k) (hD : D ≤ 21) (htD : t + 1 = D) (hr : ry T n M i ls t w nw np W L P F) (hc : cy T n G0 c0 O i cs s ns np N Q G) (hb : bz N off voff ph cx c np F ls G cs) (hB : bnd i w s nw ns np t (hg c) W L P Q N) (hW : W.length ≤ 20 * t + 12) (h17 : tk_k T n i = 4 ∧ tk_V T n (tk_pos T n i) = 17) : wok (dk_R nn k 117 [D] G) (fun _ K => (∃ i' w' s' nw' ns' np' ls' cs' H, rgo nn F (dk_33 nn F) H ∧ eg T n M G0 c0 O N off voff ph cx cb F G i ls cs w s nw ns np c t W L P Q H K i' ls' cs' w' s' nw' ns' np' c ∧ rts i w s nw ns i' w' s' nw' ns' ∧ H 20 w = 0) ∨ ∃ e p, rba nn F (dk_33 nn F) e p ∧ sx T n G0 c0 O e p N (zz D + 90) K) := by
  have hz : 6200 ≤ zz D ∧ zz D < 9800 := by unfold zz; omega
  obtain ⟨m1, m2, m3, m4, m5, m6, m7, m8, m9, m10, m11, m12⟩ := hB
  have hM1 := hM.1
  have hiM := hr.1.2.2.1
  have h62 := hb.2.2.2.2.2.1
  have hN := hb.1.1
  have hw1 : F 0 41 = w := hr.2.1.2.1
  have hln : G 57 6 = 1 + lc T (tk_pos T n i) := hc.1.2.1.2.2.1
  obtain ⟨k, rfl⟩ : ∃ m, k = m + 1 := ⟨k - 1, by omega⟩
  have hd : dk_33 nn F = (dk_212 (pm_em (pm_em F 0 0 0 0) 14 0 0 0)).bind fun y40 => if y40.1 = 0 then some (0, y40.2) else (dk_31 y40.2 37 (1 + lc T (tk_pos T n i)) 0 0).bind fun y45 => (dk_217 y45.2).bind fun y49 => if y49.1 = 0 then some (1, y49.2) else (dk_31 y49.2 14 0 0 0).bind fun y54 => (dk_31 y54.2 3 0 0 0).bind fun y58 => some (1, y58.2) := by
    unfold dk_33
    rw [pm_isWord hM hr.1 (by decide), od_bS]
    dsimp only
    rw [if_ck, if_pos h17, pm_line hM hr.1, od_bS]
    dsimp only
    rw [dkS_30 (by omega), od_bS]
    dsimp only
    rw [dkS_30 (by rw [pm_em_at.2.2.2.2]; omega), od_bS]
  have f2 : rm_fr F (pm_em (pm_em F 0 0 0 0) 14 0 0 0) := rm_fr_em (rm_fr_em (rm_fr_refl _))
  -- the row is over
  have fini : ∀ (i1 w1 s1 nw1 ns1 np1 : Nat) (ls1 cs1 : List (List Nat)) (H1 K1 : wq_F) (a : List Nat), rgo nn F (dk_33 nn F) H1 → eg T n M G0 c0 O N off voff ph cx cb F G i ls cs w s nw ns np c t ((37, 1 + lc T (tk_pos T n i), 0, 0) :: W) L P Q H1 K1 i1 ls1 cs1 w1 s1 nw1 ns1 np1 (a ++ 1 :: c) → row_a a → rts i w s nw ns i1 (w1 + 2) (s1 + 1) nw1 ns1 → w < w1 ∧ H1 20 w = 0 → wok (dk_117_42 (dk_R nn k) nn K1 (G 57 6) (hg c)) (fun _ K => (∃ i' w' s' nw' ns' np' ls' cs' H, rgo nn F (dk_33 nn F) H ∧ eg T n M G0 c0 O N off voff ph cx cb F G i ls cs w s nw ns np c t W L P Q H K i' ls' cs' w' s' nw' ns' np' c ∧ rts i w s nw ns i' w' s' nw' ns' ∧ H 20 w = 0) ∨ ∃ e p, rba nn F (dk_33 nn F) e p ∧ sx T n G0 c0 O e p N (zz D + 90) K) := fun i1 w1 s1 nw1 ns1 np1 ls1 cs1 H1 K1 a g1 e1 ha ⟨u1, u2, u3, u4, u5⟩ hst => by
    have hi1 := e1.1.1.2.2.1
    have n5 := e1.2.2.2.2.2.2
    have hgo := fun H => ry_go (nn := nn) (H := H) e1.1 (by show W.length < 4000; omega)
    have hba := fun k p => ry_ba (nn := nn) (k := k) (p := p) e1.1 (by show W.length < 4000; omega)
    have hp := ry_pop e1.1
    have bp := bz_fu (d := 0) (j := 46) (v := W.length) e1.2.2.1 (by omega)
    have fp : rm_fr H1 (wq_up H1 0 46 W.length) := rm_fr_up (rm_fr_refl _) (by decide) (by decide)
    have xp : ∀ d j, ¬ d = 0 → wq_up H1 0 46 W.length d j = H1 d j := fun d j q => wq_up_cell q
    have h33 : dk_32 nn (wq_up H1 0 46 W.length) (37, 1 + lc T (tk_pos T n i), 0, 0).1 (37, 1 + lc T (tk_pos T n i), 0, 0).2.1 (37, 1 + lc T (tk_pos T n i), 0, 0).2.2.1 (37, 1 + lc T (tk_pos T n i), 0, 0).2.2.2 = dk_271 (wq_up H1 0 46 W.length) (1 + lc T (tk_pos T n i)) := by
      show dk_32 nn (wq_up H1 0 46 W.length) 37 (1 + lc T (tk_pos T n i)) 0 0 = _
      rw [dk32_37b]
    generalize dk_32 nn (wq_up H1 0 46 W.length) (37, 1 + lc T (tk_pos T n i), 0, 0).1 (37, 1 + lc T (tk_pos T n i), 0, 0).2.1 (37, 1 + lc T (tk_pos T n i), 0, 0).2.2.1 (37, 1 + lc T (tk_pos T n i), 0, 0).2.2.2 = mm at *
    generalize wq_up H1 0 46 W.length = H1p at *
    have hw2 : H1p 0 41 = w1 := hp.2.1.2.1
    unfold dk_271 at h33
    have at1 := pm_em_at (F := H1p) (op := 17) (a := 0) (b := 0) (ln := 1 + lc T (tk_pos T n i))
    have at2 := pm_em_at (F := pm_em H1p 17 0 0 (1 + lc T (tk_pos T n i))) (op := 38) (a := 0) (b := 0) (ln := 0)
    have w2 : pm_em H1p 17 0 0 (1 + lc T (tk_pos T n i)) 0 41 = w1 + 1 := by rw [at1.2.2.2.2, hw2]
    rw [hw2] at at1
    rw [w2] at at2
    rw [dkS_30 (by omega), od_bS] at h33
    dsimp only at h33
    rw [dkS_30 (by omega), od_bS] at h33
    dsimp only at h33
    have r2 : ry T n M i1 ls1 t (w1 + 1 + 1) nw1 np1 W L P (pm_em (pm_em H1p 17 0 0 (1 + lc T (tk_pos T n i))) 38 0 0 0) := ry_em (ry_em hp)
    have b2 := bz_em (op := 38) (a := 0) (b := 0) (ln := 0) (bz_em (op := 17) (a := 0) (b := 0) (ln := 1 + lc T (tk_pos T n i)) bp)
    have ff2 : rm_fr H1 (pm_em (pm_em H1p 17 0 0 (1 + lc T (tk_pos T n i))) 38 0 0 0) := rm_fr_em (rm_fr_em fp)
    have x2 : ∀ d j, (12 ≤ d ∧ d ≤ 19) ∨ (20 ≤ d ∧ d ≤ 23 ∧ j < w1) ∨ (d = 24 ∧ j < nw1) → pm_em (pm_em H1p 17 0 0 (1 + lc T (tk_pos T n i))) 38 0 0 0 d j = H1 d j := fun d j q => by
      rw [pm_em_ne (by rw [w2]; omega) (by omega), pm_em_ne (by rw [hw2]; omega) (by omega), xp d j (by omega)]
    have y2 : pm_em (pm_em H1p 17 0 0 (1 + lc T (tk_pos T n i))) 38 0 0 0 20 w1 = 17 ∧ pm_em (pm_em H1p 17 0 0 (1 + lc T (tk_pos T n i))) 38 0 0 0 23 w1 = 1 + lc T (tk_pos T n i) := ⟨by rw [pm_em_ne (by rw [w2]; omega) (by omega)]; exact at1.1, by rw [pm_em_ne (by rw [w2]; omega) (by omega)]; exact at1.2.2.2.1⟩
    have y3 := at2.1
    generalize pm_em (pm_em H1p 17 0 0 (1 + lc T (tk_pos T n i))) 38 0 0 0 = H2 at *
    rw [pm_isSign hM r2.1 (by decide), od_bS] at h33
    dsimp only at h33
    rw [if_ck] at h33
    unfold dk_117_42
    refine wok_b (cy_78 (op := 20) (a := hg c) (b := 0) (ln := G 57 6) e1.2.1 b2 (by omega) (okj_p (by decide))) fun r K2 h2 => ?_
    dsimp only
    obtain ⟨_, c2, b3, i2, q2, _⟩ := h2
    have hlow : ∀ e ∈ a ++ [1], e < 5 := fun e he => (List.mem_append.mp he).elim (row_a_lt ha e) (fun z => by rw [List.mem_singleton.mp z]; decide)
    refine wok_b (cy_162 (d := c) c2 b3 rfl (fun k x y z => cx_at_dn (a := a ++ [1]) hlow (by rw [List.append_assoc]; exact z)) (fun e he => bz_fr b3 e (List.mem_append_right _ (List.mem_cons_of_mem _ he)))) fun r K3 h3 => ?_
    dsimp only
    obtain ⟨c3, b4, q3, _⟩ := h3
    have qq : qf s1 ns1 K1 K3 := qf_trans q2 q3 (by omega) (by omega)
    have e3 : eg T n M G0 c0 O N off voff ph cx cb H1 K1 i1 ls1 cs1 w1 s1 nw1 ns1 np1 (a ++ 1 :: c) t W L P Q H2 K3 i1 ls1 cs1 (w1 + 2) (s1 + 1) nw1 ns1 np1 c := by
      refine ⟨r2, c3, b4, ⟨⟨by omega, by omega, by omega, by omega, by omega⟩, ka_x x2, kb_x (fun d j q => qq d j (by omega)), ⟨fun j hj => absurd hj (List.not_mem_nil), fun j hj => absurd hj (List.not_mem_nil)⟩, fun H J nm X wb sb ha2 hb2 _ _ _ _ => ?_⟩, ⟨st_sf_refl _, st_pre_refl _, ⟨fun l _ => ⟨qq 62 l (by omega), qq 65 l (by omega)⟩, fun l _ e6 h6 => qq e6 l (by omega)⟩⟩, Nat.le_refl _, n5⟩
      rw [jl_nil] at ha2 hb2
      refine sg_s (l := []) (Or.inr ⟨12, ?_, ?_, ?_, ?_, a, c, rfl, ha, ?_, rfl⟩) (fun v hv => absurd hv (List.not_mem_nil))
      · show H 20 w1 = 17
        rw [ha2.1 20 w1 (by decide) (by decide) (by omega) (by omega)]
        exact y2.1
      · show H 20 (w1 + 1) = 38
        rw [ha2.1 20 (w1 + 1) (by decide) (by decide) (by omega) (by omega)]
        exact y3
      · show J 12 s1 = 20
        rw [hb2.1 12 s1 (by decide) (by decide) (by omega) (by omega), q3 12 s1 (by omega)]
        exact i2.1
      · show H 23 w1 = J 15 s1
        rw [ha2.1 23 w1 (by decide) (by decide) (by omega) (by omega), y2.2, hb2.1 15 s1 (by decide) (by decide) (by omega) (by omega), q3 15 s1 (by omega), i2.2.2.2, hln]
      · show J 13 s1 = hg c
        rw [hb2.1 13 s1 (by decide) (by decide) (by omega) (by omega), q3 13 s1 (by omega)]
        exact i2.2.1
    have E3 := eg_t e1 e3 h62
    refine wok_b (e_opt (cb := cb) (x := 59) (B := 6210) hM r2 c3 b4 (by decide) (by decide) hn hc0 hO (by omega) (by omega) n5 (by omega)) fun r K4 h4 => ?_
    refine wok_r ?_
    rcases h4 with ⟨ms, _, iM, q, e4, e5, f4⟩ | ⟨q, e4, _, hx⟩ | ⟨_, q, eK⟩
    · rw [if_pos q, e4, od_bS] at h33
      dsimp only at h33
      rw [if_neg (by decide)] at h33
      have g4 := hgo _ (rgo_i h33 (by decide) e5.1.1.1 (rm_fr_up ff2 (by decide) (by decide)))
      exact Or.inl ⟨i1 + 1, w1 + 2, s1 + 1, nw1, ns1, np1, ls1, ms, wq_up H2 0 25 (i1 + 1), rgo_t g1 g4, eg_t E3 e5 h62, ⟨by omega, by omega, by omega, by omega, by omega⟩, ((wq_up_cell (by decide)).trans (x2 20 w (by omega))).trans hst.2⟩
    · rw [if_pos q, e4, od_bS] at h33
      dsimp only at h33
      rw [if_pos rfl] at h33
      have ho := hba _ _ (rba_f h33 ff2 (by rw [r2.2.1.2.1]; omega))
      exact Or.inr ⟨_, _, rgo_o g1 ho, sx_le hx (by omega)⟩
    · rw [if_neg q] at h33
      have g4 := hgo _ (rgo_i h33 (by decide) r2.1.1 ff2)
      show (∃ i' w' s' nw' ns' np' ls' cs' H, rgo nn F (dk_33 nn F) H ∧ eg T n M G0 c0 O N off voff ph cx cb F G i ls cs w s nw ns np c t W L P Q H K4 i' ls' cs' w' s' nw' ns' np' c ∧ rts i w s nw ns i' w' s' nw' ns' ∧ H 20 w = 0) ∨ _
      rw [eK]
      exact Or.inl ⟨i1, w1 + 2, s1 + 1, nw1, ns1, np1, ls1, cs1, H2, rgo_t g1 g4, E3, ⟨by omega, by omega, by omega, by omega, by omega⟩, (x2 20 w (by omega)).trans hst.2⟩
  rw [dk_Re_117]
  unfold dk_117
  rw [cy_84 hc hb, od_bS]
  dsimp only
  refine wok_b (e_step (cb := cb) (l := 0) (a := 0) (b := 0) hr hc hb m5 (by omega)) fun r K1 h1 => ?_
  dsimp only
  obtain ⟨_, e1, _⟩ := h1
  have e2 := e_mark (cb := cb) (a := 0) (b := 0) (l := 0) e1.1 e1.2.1 e1.2.2.1 m5
  have E2 := eg_t e1 e2 h62
  have ys2 : pm_em (pm_em F 0 0 0 0) 14 0 0 0 20 w = 0 := by
    have z := pm_em_at (F := F) (op := 0) (a := 0) (b := 0) (ln := 0)
    rw [hw1] at z
    rw [pm_em_ne (by rw [z.2.2.2.2]; omega) (by omega)]
    exact z.1
  generalize pm_em (pm_em F 0 0 0 0) 14 0 0 0 = F2 at *
  refine wok_b (e_77 (cb := cb) (B := 6200) hM E2.1 E2.2.1 E2.2.2.1 (by omega) (by omega) hn hc0 hO (by omega) (by omega) m5 (by omega)) fun r K3 h3 => ?_
  dsimp only
  rcases h3 with ⟨ms, iM, e3, e4, f3⟩ | ⟨e3, hx⟩
  · rw [e3, od_bS] at hd
    dsimp only at hd
    have E3 := eg_t E2 e4 h62
    have f3' : rm_fr F (wq_up F2 0 25 (i + 1)) := rm_fr_up f2 (by decide) (by decide)
    have ys3 : wq_up F2 0 25 (i + 1) 20 w = 0 := (wq_up_cell (by decide)).trans ys2
    generalize wq_up F2 0 25 (i + 1) = F3 at *
    rw [if_neg (by decide), dkS_31 (by rw [E3.1.2.2.1.1]; omega), od_bS] at hd
    dsimp only at hd
    have e5 := e_la (cb := cb) (x1 := 37) (x2 := 1 + lc T (tk_pos T n i)) (x3 := 0) (x4 := 0) E3.1 E3.2.1 E3.2.2.1 m5
    have E5 := eg_t E3 e5 h62
    have f5 : rm_fr F (pm_la F3 37 (1 + lc T (tk_pos T n i)) 0 0) := rm_fr_la f3'
    have ys5 : pm_la F3 37 (1 + lc T (tk_pos T n i)) 0 0 20 w = 0 := (pm_la_ne (by omega) (by omega)).trans ys3
    generalize pm_la F3 37 (1 + lc T (tk_pos T n i)) 0 0 = F5 at *
    rw [dkS_217 hM E5.1.1, od_bS] at hd
    dsimp only at hd
    have k57 : K3 57 4 = tk_ty T n (tk_pos T n (i + 1)) := E5.2.1.1.2.1.1
    rw [dkS_114, od_bS, k57]
    dsimp only
    by_cases hex : tb_ex (tk_ty T n (tk_pos T n (i + 1))) = 0
    · rw [if_pos hex] at hd ⊢
      exact fini _ _ _ _ _ _ _ _ _ _ [] (rgo_i hd (by decide) E5.1.1.1 f5) E5 (Or.inl fun e he => absurd he (List.not_mem_nil)) ⟨by omega, by omega, by omega, by omega, by omega⟩ ⟨by omega, ys5⟩
    · rw [if_neg hex] at hd ⊢
      rw [dkS_31 (by rw [E5.1.2.2.1.1]; show W.length + 1 < 4000; omega), od_bS] at hd
      dsimp only at hd
      have e6 := e_la (cb := cb) (x1 := 14) (x2 := 0) (x3 := 0) (x4 := 0) E5.1 E5.2.1 E5.2.2.1 m5
      rw [dkS_31 (by rw [e6.1.2.2.1.1]; show W.length + 2 < 4000; omega), od_bS] at hd
      have e7 := e_la (cb := cb) (x1 := 3) (x2 := 0) (x3 := 0) (x4 := 0) e6.1 e6.2.1 e6.2.2.1 m5
      have E7 := eg_t E5 (eg_t e6 e7 (fun l hl => E5.2.2.1.2.2.2.2.2.1 l hl)) h62
      have f7 : rm_fr F (pm_la (pm_la F5 14 0 0 0) 3 0 0 0) := rm_fr_la (rm_fr_la f5)
      have ys7 : pm_la (pm_la F5 14 0 0 0) 3 0 0 0 20 w = 0 := (pm_la_ne (by omega) (by omega)).trans ((pm_la_ne (by omega) (by omega)).trans ys5)
      generalize pm_la (pm_la F5 14 0 0 0) 3 0 0 0 = F7 at *
      have g7 : rgo nn F (dk_33 nn F) F7 := rgo_i hd (by decide) E7.1.1.1 f7
      refine wok_b (R_ok (cb := cb) hM hE (by omega) hD htD hn hc0 hO E7.1 E7.2.1 E7.2.2.1 ⟨by omega, by omega, by omega, by omega, m5, m6, by rw [hg_1]; omega, by show W.length + 2 ≤ _; omega, m9, m10, m11, m12⟩) fun r5 K5 h5 => ?_
      dsimp only
      rcases h5 with ⟨i1, w1, s1, nw1, ns1, np1, ls1, cs1, H1, m, c', g1, e8, ⟨u1, u2, u3, u4, u5⟩, v1, v2, v3⟩ | ⟨e, p, ho, hx⟩
      · obtain ⟨a, ea, ra⟩ : ∃ a, c' = a ++ 1 :: c ∧ row_a a := by
          rcases v3 with ⟨_, z⟩ | ⟨_, z⟩
          · exact ⟨List.replicate m 0, z, Or.inl fun e he => (List.mem_replicate.mp he).2⟩
          · exact ⟨2 :: List.replicate (m - 1) 0, by rw [z]; rfl, Or.inr ⟨_, rfl, fun e he => (List.mem_replicate.mp he).2⟩⟩
        rw [ea] at e8
        exact fini _ _ _ _ _ _ _ _ _ _ a (rgo_t g7 g1) (eg_t E7 e8 h62) ra ⟨by omega, by omega, by omega, by omega, by omega⟩ ⟨by have := e8.2.2.2.1.1.1; omega, (e8.2.2.2.1.2.1.1 20 w (by decide) (by decide) (by omega)).trans ys7⟩
      · exact wok_m (sx_117 hx (by omega)) fun r K h => Or.inr ⟨e, p, rgo_o g7 ho, sx_le h (by omega)⟩
  · rw [e3, od_bS] at hd
    dsimp only at hd
    rw [if_pos rfl] at hd
    refine wok_b (sx_114 hx) fun r K h => ?_
    dsimp only
    refine wok_t h.1 ?_
    exact wok_m (sx_117 h.2 (by omega)) fun r K h => Or.inr ⟨_, _, rba_f hd f2 (by rw [E2.1.2.1.2.1]; omega), sx_le h (by omega)⟩
end
