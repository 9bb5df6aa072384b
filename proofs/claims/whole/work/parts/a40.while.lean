/-! ===== a40: while (wip/whole2/lawa40.py) ===== -/
section
variable {nn : Nat} {T : Nat → Nat} {n M O : Nat} {G0 : wq_F} {c0 : List (List Nat)} {i t w s nw ns np N : Nat} {off voff ph : Nat → Nat} {cx : Nat → List Nat} {c cb : List Nat} {W : List (Nat × Nat × Nat × Nat)} {L : List (Nat × Nat)} {P Q : List (Nat × Nat × Nat)} {ls cs : List (List Nat)} {F G : wq_F}

variable {Jr0 Jc0 : List Nat}
theorem sx_w3 {e p B ag h o : Nat} (hx : sx T n G0 c0 O e p N B G) (hB : B + 2 < 10000) (ha : okj ag) (ho : okj o) (hn : 10000 < nn) : wok ((dk_110 nn G 15).bind fun y41 => (dk_78 y41.2 21 0 ag 0).bind fun y45 => (dk_120 nn y45.2 h o).bind fun y49 => some (0, y49.2)) (fun _ K => sx T n G0 c0 O e p N (B + 2) K) := by
  refine wok_b (sx_110 hx (by decide)) fun r K h => ?_
  refine wok_b (sx_78 h (by omega) ha) fun r K h => ?_
  exact wok_b (sx_120 h.2 (by omega) ho hn) fun r K h => wok_r h
theorem sxy_w3 {e p B ag h o : Nat} (hx : sxy T n G0 c0 O e p N B G) (hB : B + 2 < 10000) (ha : okj ag) (ho : okj o) (hn : 10000 < nn) : wok ((dk_110 nn G 15).bind fun y41 => (dk_78 y41.2 21 0 ag 0).bind fun y45 => (dk_120 nn y45.2 h o).bind fun y49 => some (0, y49.2)) (fun _ K => sx T n G0 c0 O e p N (B + 2) K) := by
  refine wok_b (sxy_110 hx (by decide) (by decide)) fun r K h => ?_
  refine wok_b (sx_78 h (by omega) ha) fun r K h => ?_
  exact wok_b (sx_120 h.2 (by omega) ho hn) fun r K h => wok_r h
theorem sx_w2 {k d e p B ag h o : Nat} (hx : sx T n G0 c0 O e p N B G) (hB : B + 3 < 10000) (ha : okj ag) (ho : okj o) (hn : 10000 < nn) (hk : 2 ≤ k) : wok ((dk_110 nn G 12).bind fun y33 => (dk_R nn k 115 [d] y33.2).bind fun y37 => (dk_110 nn y37.2 15).bind fun y41 => (dk_78 y41.2 21 0 ag 0).bind fun y45 => (dk_120 nn y45.2 h o).bind fun y49 => some (0, y49.2)) (fun _ K => sx T n G0 c0 O e p N (B + 3) K) := by
  refine wok_b (sx_110 hx (by decide)) fun r K h => ?_
  refine wok_b (sx_115 h hk hn (by omega)) fun r K h => ?_
  exact sx_w3 h (by omega) ha ho hn
theorem sx_w1 {k d e p B ag h o : Nat} (hx : sx T n G0 c0 O e p N B G) (hB : B + 4 < 10000) (ha : okj ag) (ho : okj o) (hn : 10000 < nn) (hk : 2 ≤ k) : wok ((dk_78 G 22 0 4294967295 0).bind fun y21 => (dk_165 y21.2 y21.1).bind fun y25 => (dk_163 y25.2 4294967295).bind fun y29 => (dk_110 nn y29.2 12).bind fun y33 => (dk_R nn k 115 [d] y33.2).bind fun y37 => (dk_110 nn y37.2 15).bind fun y41 => (dk_78 y41.2 21 0 ag 0).bind fun y45 => (dk_120 nn y45.2 h o).bind fun y49 => some (0, y49.2)) (fun _ K => sx T n G0 c0 O e p N (B + 4) K) := by
  refine wok_b (sx_78 hx (by omega) (okj_n (by decide))) fun r K h => ?_
  refine wok_b (sx_165 h.2 (okj_p h.1)) fun r K h => ?_
  refine wok_b (sx_163 h) fun r K h => ?_
  exact sx_w2 h (by omega) ha ho hn hk
theorem st_while {D k : Nat} (hM : tk_M T n M) (hn : 10000 < nn) (hc0 : c0.length ≤ 1400) (hO : O ≤ 20000) (hn2 : 14000 < nn) (hD : D ≤ 20) (hE : E_ok nn T n M G0 c0 O (D + 1)) (hBk : Bk_ok nn T n M G0 c0 O (D + 1)) (hkf : 20 * (22 - D) + 10 ≤ k) (htD : t = D) (hr : ry T n M i ls t w nw np W L P F) (hc : cy T n G0 c0 O i cs s ns np N Q G) (hb : bz N off voff ph cx c np F ls G cs) (hB : bnd i w s nw ns np t (hg c) W L P Q N) (hW : W.length ≤ 20 * t) (hNt : N ≤ t) (hL1 : L.length + 1 ≤ t) (hbo : bo N L F G w s Jr0 Jc0) (hib : ib N L cb c) (hfs : fs c) (hk : tk_k T n i = 4 ∧ tk_V T n (tk_pos T n i) = 21) : wok (dk_119 (dk_R nn k) nn G D) (fun _ K => (∃ i' w' s' nw' ns' np' ls' cs' H c' off' voff' ph' L' Jr Jc, rgo nn F ((dk_212 F).bind fun y24 => if y24.1 = 0 then some (0, y24.2) else (dk_30 y24.2 0 0 0 0).bind fun y163 => (dk_31 y163.2 26 y163.1 0 0).bind fun y167 => (dk_31 y167.2 3 0 0 0).bind fun y171 => some (1, y171.2)) H ∧ ge T n M G0 c0 O N cx cb F G i ls cs w s nw ns np c off voff ph L Jr0 Jc0 t W P Q H K i' ls' cs' w' s' nw' ns' np' c' off' voff' ph' L' Jr Jc ∧ lo N voff c voff' ph' c' K ∧ rts i w s nw ns i' (w' + 1) (s' + 1) nw' ns' ∧ hg c' + 2 * i ≤ hg c + 2 * i') ∨ ∃ e p, rba nn F ((dk_212 F).bind fun y24 => if y24.1 = 0 then some (0, y24.2) else (dk_30 y24.2 0 0 0 0).bind fun y163 => (dk_31 y163.2 26 y163.1 0 0).bind fun y167 => (dk_31 y167.2 3 0 0 0).bind fun y171 => some (1, y171.2)) e p ∧ sx T n G0 c0 O e p N (zz D + 98) K) := by
  have hz : 6200 ≤ zz D ∧ zz D < 9800 ∧ zz (D + 1) + 110 = zz D := by unfold zz; omega
  obtain ⟨m1, m2, m3, m4, m5, m6, m7, m8, m9, m10, m11, m12⟩ := hB
  have hM1 := hM.1
  have hiM := hr.1.2.2.1
  have hN := hb.1.1
  have h62 := hb.2.2.2.2.2.1
  have hw1 : F 0 41 = w := hr.2.1.2.1
  have hok : okj (G 65 (N - 1)) := hc.2.2.2.2.2 (N - 1) (by omega)
  unfold dk_119
  rw [cy_164 hc hb, od_bS]
  dsimp only
  rw [cy_84 hc hb, od_bS]
  dsimp only
  rw [Nat.mod_eq_of_lt (show D + 1 < 4294967296 by omega)]
  refine wok_b (e_77 (cb := cb) (B := 6200) hM hr hc hb (by omega) (by omega) hn hc0 hO (by omega) (by omega) m5 (by omega)) fun r K1 h1 => ?_
  dsimp only
  rcases h1 with ⟨ms, iM, e1, E1, f1⟩ | ⟨e1, hx⟩
  rotate_left
  · have hd : ((dk_212 F).bind fun y24 => if y24.1 = 0 then some (0, y24.2) else (dk_30 y24.2 0 0 0 0).bind fun y163 => (dk_31 y163.2 26 y163.1 0 0).bind fun y167 => (dk_31 y167.2 3 0 0 0).bind fun y171 => some (1, y171.2)) = some (0, pm_f F 3 (tk_pos T n i)) := by
      rw [e1, od_bS]
      dsimp only
      rw [if_pos rfl]
    have ho := rba_f (nn := nn) hd (rm_fr_refl _) (by omega)
    have h11 := hx.2.2.1.1
    refine wok_b (sx_78 hx (by decide) (okj_p (by decide))) fun r K h => ?_
    refine wok_b (sx_148 h.2 (by omega)) fun r K h => ?_
    exact wok_m (sx_w1 h.2 (by decide) (okj_p (by omega)) hok hn (by omega)) fun r K h => Or.inr ⟨_, _, ho, sx_le h (by omega)⟩
  have h114 : K1 11 4 = s := E1.2.1.2.1.1
  rw [h114]
  have h621 := E1.2.2.1.2.2.2.2.2.1
  have ff1 : rm_fr F (wq_up F 0 25 (i + 1)) := rm_fr_up (rm_fr_refl _) (by decide) (by decide)
  have hd0 : ((dk_212 F).bind fun y24 => if y24.1 = 0 then some (0, y24.2) else (dk_30 y24.2 0 0 0 0).bind fun y163 => (dk_31 y163.2 26 y163.1 0 0).bind fun y167 => (dk_31 y167.2 3 0 0 0).bind fun y171 => some (1, y171.2)) = (dk_30 (wq_up F 0 25 (i + 1)) 0 0 0 0).bind fun y163 => (dk_31 y163.2 26 y163.1 0 0).bind fun y167 => (dk_31 y167.2 3 0 0 0).bind fun y171 => some (1, y171.2) := by
    rw [e1, od_bS]
    dsimp only
    rw [if_neg (by decide)]
  generalize ((dk_212 F).bind fun y24 => if y24.1 = 0 then some (0, y24.2) else (dk_30 y24.2 0 0 0 0).bind fun y163 => (dk_31 y163.2 26 y163.1 0 0).bind fun y167 => (dk_31 y167.2 3 0 0 0).bind fun y171 => some (1, y171.2)) = mm at *
  generalize wq_up F 0 25 (i + 1) = F1 at *
  have hw2 : F1 0 41 = w := E1.1.2.1.2.1
  refine wok_b (e_step (cb := cb) (l := 0) (a := 0) (b := 0) E1.1 E1.2.1 E1.2.2.1 m5 (by omega)) fun r K2 h2 => ?_
  dsimp only
  obtain ⟨_, E2, _, i2⟩ := h2
  rw [dkS_30 (by omega), od_bS, hw2] at hd0
  dsimp only at hd0
  have ff2 : rm_fr F (pm_em F1 0 0 0 0) := rm_fr_em ff1
  have at2 := pm_em_at (F := F1) (op := 0) (a := 0) (b := 0) (ln := 0)
  rw [hw2] at at2
  have e3 := e_la (cb := cb) (x1 := 26) (x2 := w) (x3 := 0) (x4 := 0) E2.1 E2.2.1 E2.2.2.1 m5
  have e4 := e_la (cb := cb) (x1 := 3) (x2 := 0) (x3 := 0) (x4 := 0) e3.1 e3.2.1 e3.2.2.1 m5
  have h622 := E2.2.2.1.2.2.2.2.2.1
  have E4 := eg_t e3 e4 h622
  rw [dkS_31 (by rw [E2.1.2.2.1.1]; omega), od_bS] at hd0
  dsimp only at hd0
  rw [dkS_31 (by rw [e3.1.2.2.1.1]; show W.length + 1 < 4000; omega), od_bS] at hd0
  dsimp only at hd0
  have ff4 : rm_fr F (pm_la (pm_la (pm_em F1 0 0 0 0) 26 w 0 0) 3 0 0 0) := rm_fr_la (rm_fr_la ff2)
  have y20 : pm_la (pm_la (pm_em F1 0 0 0 0) 26 w 0 0) 3 0 0 0 20 w = 0 := by
    rw [pm_la_ne (by omega) (by omega), pm_la_ne (by omega) (by omega)]
    exact at2.1
  generalize pm_la (pm_la (pm_em F1 0 0 0 0) 26 w 0 0) 3 0 0 0 = F4 at *
  have g4 : rgo nn F mm F4 := rgo_i hd0 (by decide) E4.1.1.1 ff4
  refine wok_b (hE k 0 0 (i + 1) t (w + 1) (s + 1) nw ns np N off voff ph cx c cb ((26, w, 0, 0) :: W) L P Q ls ms F4 K2 (by omega) (by unfold lim; omega) (by omega) E4.1 E4.2.1 E4.2.2.1 ⟨by omega, by omega, by omega, by omega, m5, m6, by omega, by show W.length + 1 ≤ _; omega, m9, m10, m11, m12⟩) fun r K3 h3 => ?_
  dsimp only
  rcases h3 with ⟨i3, w3, s3, nw3, ns3, np3, ls3, cs3, H3, g3, E3, ⟨u1, u2, u3, u4, u5⟩, _⟩ | ⟨e, p, ho, hx⟩
  rotate_left
  · exact wok_m (sx_w1 hx (by omega) (okj_p (by omega)) hok hn (by omega)) fun r K h => Or.inr ⟨e, p, rgo_o g4 ho, sx_le h (by omega)⟩
  have i3M := E3.1.1.2.2.1
  have n3 : np3 ≤ 50 := E3.2.2.2.2.2.2
  have g3' := rgo_t g4 g3
  -- the class's jump
  refine wok_b (cy_78 (op := 22) (a := 0) (b := 4294967295) (ln := 0) E3.2.1 E3.2.2.1 (by omega) (okj_n (by decide))) fun r K4 h4 => ?_
  dsimp only
  obtain ⟨hr4, c4, b4, i4, q4, _⟩ := h4
  rw [hr4, dkS_165 (l := N - 1) (by have := b4.1.1; omega) (by omega), od_bS]
  dsimp only
  have c5 : cy T n G0 c0 O i3 cs3 (s3 + 1) ns3 np3 N Q (wq_up K4 65 (N - 1) s3) := cy_br c4 (okj_p (by omega))
  have b5 : bz N off voff ph cx (0 :: c) np3 H3 ls3 (wq_up K4 65 (N - 1) s3) cs3 := bz_gu b4 (by omega)
  have k5a : ∀ d j, ¬ d = 65 → wq_up K4 65 (N - 1) s3 d j = K4 d j := fun d j q => wq_up_cell q
  have k5b : wq_up K4 65 (N - 1) s3 65 (N - 1) = s3 := wq_up_same _ _ _ _
  have k5c : ∀ l, l + 1 < N → wq_up K4 65 (N - 1) s3 65 l = K4 65 l := fun l hl => wq_up_at (by omega)
  generalize wq_up K4 65 (N - 1) s3 = K5 at *
  have hh : hg c ≤ 2 * i + 40 := m7
  refine wok_b (cy_163 (h := 4294967295) (d := c) c5 b5 (by rw [hg_0]; omega) (fun k _ _ z => cx_at_dn (a := [0]) (fun e he => by rw [List.mem_singleton.mp he]; decide) z) (bz_cd (a := [0]) b5 rfl)) fun r K6 h6 => ?_
  dsimp only
  obtain ⟨c6, b6, q6, _⟩ := h6
  -- the reference: do
  have hgo := fun H => ry_go (nn := nn) (H := H) E3.1 (by show W.length < 4000; omega)
  have hba := fun k p => ry_ba (nn := nn) (k := k) (p := p) E3.1 (by show W.length < 4000; omega)
  have r7 := ry_pop E3.1
  have b7 : bz N off voff ph cx c np3 (wq_up H3 0 46 W.length) ls3 K6 cs3 := bz_fu b6 (by omega)
  have f7 : rm_fr H3 (wq_up H3 0 46 W.length) := rm_fr_up (rm_fr_refl _) (by decide) (by decide)
  have x7 : ∀ d j, ¬ d = 0 → wq_up H3 0 46 W.length d j = H3 d j := fun d j q => wq_up_cell q
  have h33 : dk_32 nn (wq_up H3 0 46 W.length) (26, w, 0, 0).1 (26, w, 0, 0).2.1 (26, w, 0, 0).2.2.1 (26, w, 0, 0).2.2.2 = dk_261 (wq_up H3 0 46 W.length) w := by
    show dk_32 nn (wq_up H3 0 46 W.length) 26 w 0 0 = _
    rw [dk32_26b]
  generalize dk_32 nn (wq_up H3 0 46 W.length) (26, w, 0, 0).1 (26, w, 0, 0).2.1 (26, w, 0, 0).2.2.1 (26, w, 0, 0).2.2.2 = m7' at *
  generalize wq_up H3 0 46 W.length = H7 at *
  unfold dk_261 at h33
  refine wok_b (bt_wd (x := 3) (B := 6230) hM r7 c6 b7 (by decide) (by omega) hc0 hO (by omega) (by omega) n3 (by omega)) fun r K8 h8 => ?_
  dsimp only
  rcases h8 with ⟨iM8, e8, ms8, c8, b8, f8, p8⟩ | ⟨kk, e8, hx⟩
  rotate_left
  · rw [e8, od_bS] at h33
    dsimp only at h33
    rw [if_pos rfl] at h33
    have ho := hba _ _ (rba_f h33 f7 (by rw [r7.2.1.2.1]; omega))
    refine wok_b (sx_115 hx (by omega) hn (by omega)) fun r K h => ?_
    exact wok_m (sx_w3 h (by omega) (okj_p (by omega)) hok hn) fun r K h => Or.inr ⟨_, _, rgo_o g3' ho, sx_le h (by omega)⟩
  rw [e8, od_bS] at h33
  dsimp only at h33
  rw [if_neg (by decide)] at h33
  have r8 := ry_nx r7 iM8
  have f8r : rm_fr H3 (wq_up H7 0 25 (i3 + 1)) := rm_fr_up f7 (by decide) (by decide)
  have x8 : ∀ d j, ¬ d = 0 → wq_up H7 0 25 (i3 + 1) d j = H3 d j := fun d j q => (wq_up_cell q).trans (x7 d j q)
  have b8F : bz N off voff ph cx c np3 (wq_up H7 0 25 (i3 + 1)) ls3 K8 ms8 := bz_fu b8 (by omega)
  generalize wq_up H7 0 25 (i3 + 1) = H8 at *
  obtain ⟨H9, e9, r9, x9⟩ := ry_op r8 (by have := m9.1; omega)
  rw [e9, od_bS] at h33
  dsimp only at h33
  have h53 : H8 0 53 = N - 1 := by have := b8F.1.1; omega
  have h50 : H8 0 50 = voff N := b8F.1.1.2.2.2.2.2.2.2.1
  have h32 : H8 32 (N - 1) = G 62 (N - 1) := by
    have y := (b8F.1.2.1 (N - 1) (by omega)).2.2.2.2.1
    rw [y, f8 62 _ (by omega) (by omega) (by omega), q6 62 _ (by omega), k5a 62 _ (by decide), q4 62 _ (by omega), (E3.2.2.2.2.1.2.2.1 (N - 1) (by omega)).1, (E2.2.2.2.2.1.2.2.1 (N - 1) (by omega)).1, (E1.2.2.2.2.1.2.2.1 (N - 1) (by omega)).1]
  have hf50 : G 62 (N - 1) < 50 := by have := h62 (N - 1) (by omega); omega
  rw [h53] at r9
  have r9L : ((4294967295, N - 1) :: L).length = L.length + 1 := rfl
  have h956 : H9 0 56 = L.length + 1 := r9.2.2.2.1.1
  have h941 : H9 0 41 = w3 := r9.2.1.2.1
  have b9 : bz N off voff ph cx c np3 H9 ls3 K8 ms8 := bz_F b8F ⟨fun d hd => funext fun j => x9 d j (by omega) (by omega), x9 0 50 (by omega) (by omega), x9 0 53 (by omega) (by omega)⟩
  rw [h956, show (L.length + 1 + (4294967296 - 1)) % 4294967296 = L.length by omega, od_letS, dkS_30 (by omega), od_bS, h941] at h33
  dsimp only at h33
  rw [od_g1 (by have := m9.1; omega), od_upS] at h33
  have at10 := pm_em_at (F := H9) (op := 22) (a := 4294967295) (b := 0) (ln := 0)
  rw [h941] at at10
  have r10 : ry T n M (i3 + 1) ls3 t (w3 + 1) nw3 np3 W ((w3, N - 1) :: L) P (wq_up (pm_em H9 22 4294967295 0 0) 33 L.length w3) := ry_ch (ry_em r9)
  have b10 : bz N off voff ph cx c np3 (wq_up (pm_em H9 22 4294967295 0 0) 33 L.length w3) ls3 K8 ms8 := bz_fu (bz_em b9) (by omega)
  have x10 : ∀ d j, ¬ d = 0 → ¬ (20 ≤ d ∧ d ≤ 23 ∧ j = w3) → ¬ (d = 33 ∨ d = 34) → wq_up (pm_em H9 22 4294967295 0 0) 33 L.length w3 d j = H3 d j := fun d j a b e => by
    rw [wq_up_cell (by omega), pm_em_ne (by omega) (by omega), x9 d j (by omega) (by omega), x8 d j a]
  have y10 : wq_up (pm_em H9 22 4294967295 0 0) 33 L.length w3 20 w3 = 22 ∧ wq_up (pm_em H9 22 4294967295 0 0) 33 L.length w3 21 w3 = 4294967295 := ⟨(wq_up_cell (by decide)).trans at10.1, (wq_up_cell (by decide)).trans at10.2.1⟩
  have z10 : wq_up (pm_em H9 22 4294967295 0 0) 33 L.length w3 0 53 = N - 1 ∧ wq_up (pm_em H9 22 4294967295 0 0) 33 L.length w3 0 50 = voff N ∧ wq_up (pm_em H9 22 4294967295 0 0) 33 L.length w3 32 (N - 1) = G 62 (N - 1) := ⟨by rw [wq_up_cell (by decide), pm_em_ne (by omega) (by omega), x9 0 53 (by omega) (by omega)]; exact h53, by rw [wq_up_cell (by decide), pm_em_ne (by omega) (by omega), x9 0 50 (by omega) (by omega)]; exact h50, by rw [wq_up_cell (by decide), pm_em_ne (by omega) (by omega), x9 32 _ (by omega) (by omega)]; exact h32⟩
  have f10 : rm_fr H3 (wq_up (pm_em H9 22 4294967295 0 0) 33 L.length w3) := rm_fr_up (rm_fr_em (rm_fr_x f8r (fun c j a b _ => x9 c j (by omega) (by omega)) ⟨x9 0 2 (by omega) (by omega), x9 0 8 (by omega) (by omega), x9 0 14 (by omega) (by omega)⟩)) (by decide) (fun z => absurd z (by decide))
  generalize wq_up (pm_em H9 22 4294967295 0 0) 33 L.length w3 = H10 at *
  unfold dk_218 at h33
  rw [z10.1, od_g1 (by omega), z10.2.2, od_bS] at h33
  dsimp only at h33
  rw [od_g1 (by omega), dkS_31 (by rw [r10.2.2.1.1]; omega), od_bS] at h33
  dsimp only at h33
  have e11 := e_la (cb := c) (x1 := 27) (x2 := w) (x3 := H10 14 (G 62 (N - 1))) (x4 := 0) r10 c8 b10 n3
  unfold dk_224 at h33
  rw [pm_la_ne (by omega) (by omega), z10.2.1, dkS_31 (by rw [e11.1.2.2.1.1]; show W.length + 1 < 4000; omega), od_bS] at h33
  dsimp only at h33
  have e12 := e_la (cb := c) (x1 := 2) (x2 := voff N) (x3 := 0) (x4 := 0) e11.1 e11.2.1 e11.2.2.1 n3
  rw [dkS_31 (by rw [e12.1.2.2.1.1]; show W.length + 2 < 4000; omega), od_bS, od_bS] at h33
  dsimp only at h33
  have e13 := e_la (cb := c) (x1 := 0) (x2 := 0) (x3 := 0) (x4 := 0) e12.1 e12.2.1 e12.2.2.1 n3
  have f13 : rm_fr H3 (pm_la (pm_la (pm_la H10 27 w (H10 14 (G 62 (N - 1))) 0) 2 (voff N) 0 0) 0 0 0 0) := rm_fr_la (rm_fr_la (rm_fr_la f10))
  have x13 : ∀ d j, ¬ d = 0 → ¬ (25 ≤ d ∧ d ≤ 28) → pm_la (pm_la (pm_la H10 27 w (H10 14 (G 62 (N - 1))) 0) 2 (voff N) 0 0) 0 0 0 0 d j = H10 d j := fun d j a b => by
    rw [pm_la_ne (by omega) (by omega), pm_la_ne (by omega) (by omega), pm_la_ne (by omega) (by omega)]
  have hx14 : H10 14 (G 62 (N - 1)) = H3 14 (G 62 (N - 1)) := x10 14 _ (by decide) (by omega) (by omega)
  have hfr : ∀ e ∈ c, e < H10 14 (G 62 (N - 1)) + 5 := fun e he => by
    have y := bz_fr b10 e he
    rw [f8 62 _ (by omega) (by omega) (by omega), q6 62 _ (by omega), k5a 62 _ (by decide), q4 62 _ (by omega), (E3.2.2.2.2.1.2.2.1 (N - 1) (by omega)).1, (E2.2.2.2.2.1.2.2.1 (N - 1) (by omega)).1, (E1.2.2.2.2.1.2.2.1 (N - 1) (by omega)).1] at y
    exact y
  generalize H10 14 (G 62 (N - 1)) = a1 at *
  generalize pm_la (pm_la (pm_la H10 27 w a1 0) 2 (voff N) 0 0) 0 0 0 0 = H13 at *
  have g13 := hgo _ (rgo_i h33 (by decide) e13.1.1.1 f13)
  -- the block
  have k8 : ∀ d j, (17 ≤ d ∧ d ≤ 23) ∨ (12 ≤ d ∧ d ≤ 15 ∧ j < s3) ∨ (d = 16 ∧ j < ns3) ∨ d = 62 ∨ d = 61 ∨ d = 60 → K8 d j = K3 d j := fun d j q => by
    rw [f8 d j (by omega) (by omega) (by omega), q6 d j (by omega), k5a d j (by omega), q4 d j (by omega)]
  have k8b : K8 12 s3 = 22 ∧ K8 14 s3 = 4294967295 ∧ K8 65 (N - 1) = s3 := by
    obtain ⟨z1, z2, z3, z4⟩ := i4
    refine ⟨?_, ?_, ?_⟩
    · rw [f8 12 _ (by omega) (by omega) (by omega), q6 12 _ (by omega), k5a 12 _ (by decide)]
      exact z1
    · rw [f8 14 _ (by omega) (by omega) (by omega), q6 14 _ (by omega), k5a 14 _ (by decide)]
      exact z3
    · rw [f8 65 _ (by omega) (by omega) (by omega), q6 65 _ (by omega), k5b]
  have k8l : ∀ l, l + 1 < N → K8 65 l = K3 65 l := fun l hl => by
    rw [f8 65 _ (by omega) (by omega) (by omega), q6 65 _ (by omega), k5c l hl, q4 65 l (by omega)]
  have hbo8 : bo N ((w3, N - 1) :: L) H13 K8 (w3 + 1) (s3 + 1) [w3] [s3] := by
    refine ⟨fun e he => ?_, Or.inl ⟨w3, L, rfl, ⟨rfl, by omega, ?_⟩, ?_, ?_⟩⟩
    · rcases List.mem_cons.mp he with q | q
      · rw [q]
        show N - 1 < N
        omega
      · exact hbo.1 e q
    · rw [x13 21 w3 (by decide) (by omega), y10.2]
      exact ⟨by decide, by decide⟩
    · rw [k8b.2.2]
      refine ⟨rfl, by omega, ?_⟩
      rw [k8b.2.1]
      exact ⟨by decide, by decide⟩
    · rw [k8b.2.2]
      omega
  refine wok_b (cb_ok (cb := c) (k := k) hM hn hc0 hO (by omega) hBk (by omega) (by omega) e13.1 e13.2.1 e13.2.2.1 ⟨by omega, by omega, by omega, by omega, n3, m6, by omega, by show W.length + 1 ≤ _; omega, ⟨?_, ?_⟩, m10, m11, m12⟩ (by show W.length + 1 ≤ _; omega) hbo8 (fun _ => ⟨[], rfl, fun e he => absurd he (List.not_mem_nil)⟩) hfs) fun r K14 h14 => ?_
  · exact hL1
  · exact hbo8.1
  dsimp only
  rcases h14 with ⟨i5, w5, s5, nw5, ns5, np5, ls5, cs5, H5, L5, Jr, Jc, g5, ge5, v1, v2, v3, v4, v5⟩ | ⟨e, p, ho, hx⟩
  rotate_left
  · exact wok_m (sxy_w3 hx (by omega) (okj_p (by omega)) hok hn) fun r K h => Or.inr ⟨e, p, rgo_o g3' (rm_to_out g13.1 g13.2 ho), sx_le h (by omega)⟩
  have i5M := ge5.1.1.2.2.1
  have n5 : np5 ≤ 50 := ge5.2.2.2.2.2.1.2
  have lt5 := ge5.2.2.2.2.2.2.2.2
  have bo5 := ge5.2.2.2.2.2.2.2.1
  obtain ⟨v5', eL5⟩ : ∃ v', L5 = (v', N - 1) :: L := by
    have q1 := lt5.1
    have q2 := lt5.2.1
    cases L5 with
    | nil => cases q2
    | cons z L0 =>
      obtain ⟨z1, z2⟩ := z
      have q3 : z2 :: L0.map Prod.snd = (N - 1) :: L.map Prod.snd := q2
      have q4 : L0 = L := q1
      injection q3 with q5 q6
      exact ⟨z1, by rw [q4, q5]⟩
  subst eL5
  obtain ⟨jr, jcc⟩ : jc (H5 21) v5' w5 (Jr ++ [w3]) ∧ jc (K14 14) (K14 65 (N - 1)) s5 (Jc ++ [s3]) := by
    rcases bo5.2 with ⟨x, L0, e, q1, q2, _⟩ | ⟨e, _⟩
    · injection e with e1' e2'
      injection e1' with e3' e4'
      rw [e3']
      exact ⟨q1, q2⟩
    · exact absurd (e (v5', N - 1) (List.mem_cons_self ..)) (Nat.lt_irrefl _)
  -- end
  have hgo5 := fun H => ry_go (nn := nn) (H := H) ge5.1 (by show W.length < 4000; omega)
  have hba5 := fun k p => ry_ba (nn := nn) (k := k) (p := p) ge5.1 (by show W.length < 4000; omega)
  have r15 := ry_pop ge5.1
  have b15 : bz N off voff ph cx c np5 (wq_up H5 0 46 W.length) ls5 K14 cs5 := bz_fu ge5.2.2.1 (by omega)
  have f15 : rm_fr H5 (wq_up H5 0 46 W.length) := rm_fr_up (rm_fr_refl _) (by decide) (by decide)
  have x15 : ∀ d j, ¬ d = 0 → wq_up H5 0 46 W.length d j = H5 d j := fun d j q => wq_up_cell q
  have h34 : dk_32 nn (wq_up H5 0 46 W.length) (27, w, a1, 0).1 (27, w, a1, 0).2.1 (27, w, a1, 0).2.2.1 (27, w, a1, 0).2.2.2 = dk_262 nn (wq_up H5 0 46 W.length) w a1 := by
    show dk_32 nn (wq_up H5 0 46 W.length) 27 w a1 0 = _
    rw [dk32_27b]
  generalize dk_32 nn (wq_up H5 0 46 W.length) (27, w, a1, 0).1 (27, w, a1, 0).2.1 (27, w, a1, 0).2.2.1 (27, w, a1, 0).2.2.2 = m5' at *
  generalize wq_up H5 0 46 W.length = H15 at *
  unfold dk_262 at h34
  refine wok_b (bt_wd (x := 6) (B := 6240) hM r15 ge5.2.1 b15 (by decide) (by omega) hc0 hO (by omega) (by omega) n5 (by omega)) fun r K16 h16 => ?_
  dsimp only
  rcases h16 with ⟨iM16, e16, ms16, c16, b16, f16, p16⟩ | ⟨kk, e16, hx⟩
  rotate_left
  · rw [e16, od_bS] at h34
    dsimp only at h34
    rw [if_pos rfl] at h34
    have ho := hba5 _ _ (rba_f h34 f15 (by rw [r15.2.1.2.1]; omega))
    refine wok_b (sx_78 hx (by omega) (okj_p (by omega))) fun r K h => ?_
    exact wok_b (sx_120 h.2 (by omega) hok hn) fun r K h => wok_r (Or.inr ⟨_, _, rgo_o g3' (rm_to_out g13.1 g13.2 (rm_to_out g5.1 g5.2 ho)), sx_le h (by omega)⟩)
  rw [e16, od_bS] at h34
  dsimp only at h34
  rw [if_neg (by decide)] at h34
  have r16 := ry_nx r15 iM16
  have f16r : rm_fr H5 (wq_up H15 0 25 (i5 + 1)) := rm_fr_up f15 (by decide) (by decide)
  have x16 : ∀ d j, ¬ d = 0 → wq_up H15 0 25 (i5 + 1) d j = H5 d j := fun d j q => (wq_up_cell q).trans (x15 d j q)
  have b16F : bz N off voff ph cx c np5 (wq_up H15 0 25 (i5 + 1)) ls5 K16 ms16 := bz_fu b16 (by omega)
  generalize wq_up H15 0 25 (i5 + 1) = H16 at *
  have h1641 : H16 0 41 = w5 := r16.2.1.2.1
  rw [dkS_30 (by omega), od_bS] at h34
  dsimp only at h34
  have at17 := pm_em_at (F := H16) (op := 21) (a := w) (b := 0) (ln := 0)
  rw [h1641] at at17
  refine wok_b (cy_78 (op := 21) (a := 0) (b := s) (ln := 0) c16 b16F (by omega) (okj_p (by omega))) fun r K17 h17 => ?_
  dsimp only
  obtain ⟨_, c17, b17, i17, q17, _⟩ := h17
  have r17 : ry T n M (i5 + 1) ls5 t (w5 + 1) nw5 np5 W ((v5', N - 1) :: L) P (pm_em H16 21 w 0 0) := ry_em r16
  have b17F := bz_em (op := 21) (a := w) (b := 0) (ln := 0) b17
  have x17 : ∀ d j, ¬ d = 0 → ¬ (20 ≤ d ∧ d ≤ 23 ∧ j = w5) → pm_em H16 21 w 0 0 d j = H5 d j := fun d j a b => by
    rw [pm_em_ne (by omega) (by omega), x16 d j a]
  have f17 : rm_fr H5 (pm_em H16 21 w 0 0) := rm_fr_em f16r
  generalize pm_em H16 21 w 0 0 = H17 at *
  have k17 : ∀ d j, (17 ≤ d ∧ d ≤ 23) ∨ (12 ≤ d ∧ d ≤ 15 ∧ j < s5) ∨ (d = 16 ∧ j < ns5) ∨ d = 62 ∨ d = 65 ∨ d = 61 ∨ d = 60 → K17 d j = K14 d j := fun d j q => by
    rw [q17 d j (by omega), f16 d j (by omega) (by omega) (by omega)]
  have jr17 : jc (H17 21) v5' (w5 + 1) (Jr ++ [w3]) := jc_le (jc_ext jr (fun j hj => x17 21 j (by decide) (by have := jc_lt jr j hj; omega))) (by omega)
  have jc17 : jc (K17 14) (K17 65 (N - 1)) (s5 + 1) (Jc ++ [s3]) := by
    rw [k17 65 _ (by omega)]
    exact jc_le (jc_ext jcc (fun j hj => k17 14 j (by have := jc_lt jcc j hj; omega))) (by omega)
  obtain ⟨H18, K18, e228, e120, r18, c18, b18, f18, ⟨y18a, y18b, y18⟩, ⟨z18a, z18b, z18c, z18⟩⟩ := lp_end (a1 := a1) (o := G 65 (N - 1)) (d := c) hn2 r17 c17 b17F (by have := m9.1; omega) (by omega) (by omega) jr17 jc17 hok (fun _ _ _ z => z) (bz_fr b17F)
  rw [e228, od_bS] at h34
  rw [e120, od_bS]
  refine wok_r ?_
  dsimp only
  have g18 := hgo5 _ (rgo_i h34 (by decide) r18.1.1 (rm_fr_trans f17 f18))
  -- memories compared
  have k62l : ∀ l, l < N → K8 62 l = G 62 l := fun l hl => by
    rw [k8 62 l (by omega), (E3.2.2.2.2.1.2.2.1 l hl).1, (E2.2.2.2.2.1.2.2.1 l hl).1, (E1.2.2.2.2.1.2.2.1 l hl).1]
  have p3 := E3.2.2.2.1
  have p5 := ge5.2.2.2.1
  have gk5 := ge5.2.2.2.2.1.2.2
  have lv2 : lvl N K2 = lvl N G := lvl_eq (fun l hl => by rw [(E2.2.2.2.2.1.2.2.1 l hl).1, (E1.2.2.2.2.1.2.2.1 l hl).1])
  have lv8 : lvl N K8 = lvl N G := lvl_eq k62l
  have f2 : K2 62 (N - 1) = G 62 (N - 1) := by rw [(E2.2.2.2.2.1.2.2.1 (N - 1) (by omega)).1, (E1.2.2.2.2.1.2.2.1 (N - 1) (by omega)).1]
  rw [lv2, f2] at p3
  rw [lv8, k62l (N - 1) (by omega)] at p5
  have p3' := p3
  have p5' := p5
  obtain ⟨⟨l31, l32, l33, l34, l35⟩, ka3, kb3, _, _⟩ := p3'
  obtain ⟨⟨l51, l52, l53, l54, l55⟩, ka5, kb5, ⟨qJ, qI⟩, _⟩ := p5'
  have hlv : ∀ g, np ≤ g → ¬ lvl N G g := fun g hg ⟨l, l1, l2⟩ => by have := h62 l l1; omega
  have hfN : G 62 (N - 1) < np := h62 (N - 1) (by omega)
  have memJ : ∀ j, j ∈ Jr ++ [w3] → w3 ≤ j ∧ j < w5 := fun j hj => (List.mem_append.mp hj).elim (fun z => by have := qJ j z; omega) (fun z => by rw [List.mem_singleton.mp z]; omega)
  have memI : ∀ j, j ∈ Jc ++ [s3] → s3 ≤ j ∧ j < s5 := fun j hj => (List.mem_append.mp hj).elim (fun z => by have := qI j z; omega) (fun z => by rw [List.mem_singleton.mp z]; omega)
  have A35 : ka H3 H13 w3 nw3 np3 (lvl N G) := ka_x (fun d j q => (x13 d j (by omega) (by omega)).trans (x10 d j (by omega) (by omega) (by omega)))
  have A59 : ka (jl_up H5 21 (Jr ++ [w3]) (w5 + 1)) H18 w5 nw5 np5 (lvl N G) := ka_x (fun d j q => by
    rw [y18 d j (by omega) (by omega)]
    unfold jl_up
    by_cases z : d = 21 ∧ j ∈ Jr ++ [w3]
    · rw [if_pos z, if_pos z]
    · rw [if_neg z, if_neg z, x17 d j (by omega) (by omega)])
  have A5j : ka H5 (jl_up H5 21 (Jr ++ [w3]) (w5 + 1)) w3 nw3 np3 (lvl N G) := ka_x (fun d j q => jl_ne (fun z => by have := memJ j z.2; omega))
  have A39 : ka H3 H18 w3 nw3 np3 (lvl N G) := ka_trans (ka_trans A35 ka5 (by omega) (Nat.le_refl _) (Nat.le_refl _)) (ka_trans A5j A59 (by omega) (by omega) (by omega)) (Nat.le_refl _) (Nat.le_refl _) (Nat.le_refl _)
  have B35 : kb K3 K8 s3 ns3 np3 (lvl N G) := kb_x (fun d j q => k8 d j (by omega))
  have B59 : kb (jl_up K14 14 (Jc ++ [s3]) (s5 + 1)) K18 s5 ns5 np5 (lvl N G) := kb_x (fun d j q => by
    rw [z18 d j (by omega) (by omega) (by omega) (by omega)]
    unfold jl_up
    by_cases z : d = 14 ∧ j ∈ Jc ++ [s3]
    · rw [if_pos z, if_pos z]
    · rw [if_neg z, if_neg z, k17 d j (by omega)])
  have B5j : kb K14 (jl_up K14 14 (Jc ++ [s3]) (s5 + 1)) s3 ns3 np3 (lvl N G) := kb_x (fun d j q => jl_ne (fun z => by have := memI j z.2; omega))
  have B39 : kb K3 K18 s3 ns3 np3 (lvl N G) := kb_trans (kb_trans B35 kb5 (by omega) (Nat.le_refl _) (Nat.le_refl _)) (kb_trans B5j B59 (by omega) (by omega) (by omega)) (Nat.le_refl _) (Nat.le_refl _) (Nat.le_refl _)
  have E24 := eg_t E2 E4 h621
  have p24 := E24.2.2.2.1
  have lv1 : lvl N K1 = lvl N G := lvl_eq (fun l hl => (E1.2.2.2.2.1.2.2.1 l hl).1)
  rw [lv1, (E1.2.2.2.2.1.2.2.1 (N - 1) (by omega)).1] at p24
  have memw : ∀ j, w5 ≤ j → ¬ j ∈ Jr ++ [w3] := fun j hj z => by have := memJ j z; omega
  have mems : ∀ j, s5 ≤ j → ¬ j ∈ Jc ++ [s3] := fun j hj z => by have := memI j z; omega
  have SG := sg_wh (cb := cb) (a1 := a1) (s := s) (w := w) (A9 := H18) (B9 := K18) p3 p5 ge5.2.2.2.2.1.1.1 (st_pre_trans p8 ge5.2.2.2.2.1.2.1) hlv hfN A39 B39 A59 B59
    ⟨by rw [A39.1 20 w (by decide) (by decide) (by omega), ka3.1 20 w (by decide) (by decide) (by omega)]; exact y20,
      by rw [y18 20 w3 (by decide) (by omega), jl_ne (by omega), x17 20 w3 (by decide) (by omega), ka5.1 20 w3 (by decide) (by decide) (by omega), x13 20 w3 (by decide) (by omega)]; exact y10.1,
      by rw [y18 21 w3 (by decide) (by omega), jl_at (List.mem_append_right _ (List.mem_singleton.mpr rfl))],
      by rw [y18 20 w5 (by decide) (by omega), jl_ne (by omega)]; exact at17.1,
      by rw [y18 21 w5 (by decide) (by omega), jl_ne (fun z => memw w5 (Nat.le_refl _) z.2)]; exact at17.2.1, y18a, y18b⟩
    ⟨by rw [B39.1 12 s (by decide) (by decide) (by omega), kb3.1 12 s (by decide) (by decide) (by omega)]; exact i2.1,
      by rw [z18 12 s3 (by omega) (by omega) (by omega) (by omega), jl_ne (by omega), k17 12 s3 (by omega), kb5.1 12 s3 (by decide) (by decide) (by omega)]; exact k8b.1,
      by rw [z18 14 s3 (by omega) (by omega) (by omega) (by omega), jl_at (List.mem_append_right _ (List.mem_singleton.mpr rfl))],
      by rw [z18 12 s5 (by omega) (by omega) (by omega) (by omega), jl_ne (by omega)]; exact i17.1,
      by rw [z18 14 s5 (by omega) (by omega) (by omega) (by omega), jl_ne (fun z => mems s5 (Nat.le_refl _) z.2)]; exact i17.2.2.1, z18a, z18b⟩ hfr cb
  have kaF : ka F1 H18 w nw np (lvl N G) := ka_trans (ka_trans p24.2.1 ka3 (by omega) (Nat.le_refl _) (Nat.le_refl _)) A39 (by omega) l33 l35
  have kbF : kb K1 K18 s ns np (lvl N G) := kb_trans (kb_trans p24.2.2.1 kb3 (by omega) (Nat.le_refl _) (Nat.le_refl _)) B39 (by omega) l34 l35
  have PJ : pj ls5 ms16 (lvl N G) (G 62 (N - 1)) cb F1 K1 w s nw ns np c H18 K18 (w5 + 1 + 1) (s5 + 1 + 1) nw5 ns5 np5 c [] [] := ⟨⟨by omega, by omega, by omega, by omega, by omega⟩, kaF, kbF, ⟨fun j hj => absurd hj (List.not_mem_nil), fun j hj => absurd hj (List.not_mem_nil)⟩, fun H J nm X wb sb z1 z2 z3 z4 z5 z6 => SG H J nm X wb sb z1 z2 (nmr_up z3 (st_pre_refl _) p16) z4 z5 z6⟩
  have sfA : st_sf ls ls5 := st_sf_trans E3.2.2.2.2.1.1 ge5.2.2.2.2.1.1
  have spA : st_pre ms ms16 := st_pre_trans E3.2.2.2.2.1.2.1 (st_pre_trans p8 (st_pre_trans ge5.2.2.2.2.1.2.1 p16))
  have PJ2 := pj_t E1.2.2.2.1 PJ sfA.1 spA hlv hfN
  have lk3 := E3.2.2.2.2.1.2.2
  have lk2 := E2.2.2.2.2.1.2.2
  have lk1 := E1.2.2.2.2.1.2.2
  have kbA := kb_trans E1.2.2.2.1.2.2.1 kbF (Nat.le_refl _) (Nat.le_refl _) (Nat.le_refl _)
  have kaA := ka_trans E1.2.2.2.1.2.1 kaF (Nat.le_refl _) (Nat.le_refl _) (Nat.le_refl _)
  have K18k : ∀ d j, d = 62 ∨ d = 61 ∨ d = 60 ∨ (d = 65 ∧ ¬ j = N - 1) → K18 d j = K14 d j := fun d j q => by
    rw [z18 d j (by omega) (by omega) (by omega) (by omega), jl_ne (by omega), k17 d j (by omega)]
  refine Or.inl ⟨i5 + 1, w5 + 1 + 1, s5 + 1 + 1, nw5, ns5, np5, ls5, ms16, H18, c, off, voff, ph, L, [], [], rgo_t g3' ⟨rm_trans g13.1 (rm_trans g5.1 g18.1), rm_fr_trans g13.2 (rm_fr_trans g5.2 g18.2)⟩, ⟨r18, c18, b18, PJ2, ⟨sfA, st_pre_trans E1.2.2.2.2.1.2.1 spA, ⟨fun l hl => ?_, fun l hl => ?_, fun x hx e6 h6 => ?_⟩⟩, ⟨by omega, n5⟩, ve_refl, bo_x hbo (fun j hj => kaA.1 21 j (by decide) (by decide) hj) (fun j hj => kbA.1 14 j (by decide) (by decide) hj) z18c (by omega) (by omega), lt2_refl⟩, lo_refl rfl, ⟨by omega, by omega, by omega, by omega, by omega⟩, by omega⟩
  · rw [K18k 62 l (by omega), gk5.1 l hl]
    exact k62l l hl
  · rw [K18k 65 l (by omega), gk5.2.1 l hl, k8l l hl, (lk3.1 l (by omega)).2, (lk2.1 l (by omega)).2, (lk1.1 l (by omega)).2]
  · rw [K18k e6 x (by omega), gk5.2.2 x hx e6 h6, k8 e6 x (by omega), lk3.2 x hx e6 h6, lk2.2 x hx e6 h6, lk1.2 x hx e6 h6]
end
