/-! ===== a67: a counting loop behind its values (wip/whole2/lawa67.py) ===== -/
section
variable {nn : Nat} {T : Nat → Nat} {n M O : Nat} {G0 : wq_F} {c0 : List (List Nat)} {i t w s nw ns np N : Nat} {off voff ph : Nat → Nat} {cx : Nat → List Nat} {c cb : List Nat} {W : List (Nat × Nat × Nat × Nat)} {L : List (Nat × Nat)} {P Q : List (Nat × Nat × Nat)} {ls cs : List (List Nat)} {F G : wq_F}

variable {f i0 m v0 : Nat}
theorem sx_ft {k d hX hY a op aB ar h o e p B : Nat} (hx : sx T n G0 c0 O e p N B G) (ha : a ≤ 1200) (hk : 1 ≤ k) (hn : 10000 < nn) (hB : B + 4 < 10000) (hag : okj ar) (ho : okj o) : wok ((dk_162 G hX).bind fun y21 => (dk_167 nn y21.2 a hY).bind fun y25 => (dk_R nn k 80 [d] y25.2).bind fun y29 => (dk_110 nn y29.2 15).bind fun y33 => (dk_113 y33.2 hY).bind fun y37 => (dk_78 y37.2 op aB ar 0).bind fun y41 => (dk_120 nn y41.2 h o).bind fun y45 => some (0, y45.2)) (fun _ K => sx T n G0 c0 O e p N (B + 3) K) := by
  refine wok_b (sx_162 hx) fun r K hx => ?_
  refine wok_b (sx_167 hx ha hn) fun r K hx => ?_
  refine wok_b (sx_80 hx hk hn) fun r K hx => ?_
  refine wok_b (sx_110 hx (by decide)) fun r K hx => ?_
  refine wok_b (sx_113 hx (by omega)) fun r K hx => ?_
  refine wok_b (sx_78 hx (by omega) hag) fun r K hx => ?_
  exact wok_b (sx_120 hx.2 (by omega) ho hn) fun r K h => wok_r h
theorem sx_82 {k d ln a o h e p B : Nat} (hx : sx T n G0 c0 O e p N B G) (ha : a ≤ 1200) (hk : 1 ≤ k) (hn : 10000 < nn) (hB : B + 8 < 10000) (ho : okj o) : wok (dk_127_82 (dk_R nn k) nn G d ln a o h) (fun _ K => sx T n G0 c0 O e p N (B + 6) K) := by
  unfold dk_127_82
  refine wok_b (sx_78 hx (by omega) (okj_p (by decide))) fun r K1 hx => ?_
  have k4 : K1 11 4 < 10000 := Nat.lt_of_le_of_lt hx.2.2.2.1.1 (by omega)
  refine wok_b (sx_78 hx.2 (by omega) (okj_p (by decide))) fun r K2 hx => ?_
  refine wok_b (sx_78 hx.2 (by omega) (okj_n (by decide))) fun r K3 hx => ?_
  refine wok_b (sx_165 hx.2 (okj_p hx.1)) fun r K4 hx => ?_
  refine wok_b (sx_110 hx (by decide)) fun r K5 hx => ?_
  exact wok_m (sx_ft (op := 33) (aB := h) hx ha hk hn (by omega) (okj_p k4) ho) fun r K h => sx_le h (by omega)
set_option maxHeartbeats 4000000 in
/-- from the sign that begins its block on -/
theorem for_do1 {D k ln o : Nat} (hM : tk_M T n M) (hn : 10000 < nn) (hc0 : c0.length ≤ 1400) (hO : O ≤ 20000) (hn2 : 14000 < nn) (hD : D ≤ 20) (hBk : Bk_ok nn T n M G0 c0 O (D + 1)) (hkf : 20 * (22 - D) + 10 ≤ k) (htD : t = D) (hr : ry T n M i ls t w nw np W L P F) (hc : cy T n G0 c0 O i cs s ns np N Q G) (hb : bz N (at_N off N (off N + 1)) voff ph cx (0 :: 0 :: 0 :: c) np F ls G cs) (hoff : off (N - 1) ≤ off N ∧ voff (N - 1) ≤ voff N) (hph : ∀ k, k < voff N → ph k < off N) (h61c : ∀ k, voff (N - 1) ≤ k → k < voff N → G 61 (ph k) < hg c) (hf : G 62 (N - 1) = f) (h14 : v0 + 1 ≤ F 14 f) (hv : v0 + 1 ≤ 50) (hc5 : ∀ e ∈ c, e < v0 + 5) (hfs : fs c) (hid : ∀ x, off N ≤ x → x < off N + 1 → G 61 x = 4294967295) (hnm : ∀ j, j < 1 → tk_k T n (i0 + 2 * j) = 1 ∧ G 60 (off N + j) < cs.length ∧ cs.getD (G 60 (off N + j)) [] = tk_B T n (tk_pos T n (i0 + 2 * j))) (hi0 : i0 + 2 ≤ M + 1) (hB : bnd i w s nw ns np t (hg c + 4) W L P Q N) (hW : W.length ≤ 20 * t) (hL1 : L.length + 1 ≤ t) (hao : off N ≤ 1200) (ho : okj o) : wok (dk_127_82 (dk_R nn k) nn G D ln (off N) o (hg c)) (fun _ K => (∃ i' w' s' nw' ns' np' ls' cs' H K2, wq_up K 59 3 (off N) = K2 ∧ rgo nn F (dk_267 F ln i0 v0) H ∧ ry T n M i' ls' t w' nw' np' W L P H ∧ cy T n G0 c0 O i' cs' s' ns' np' N Q K2 ∧ bz N off voff ph cx c np' H ls' K2 cs' ∧ pj ls' cs' (lvl N G) (G 62 (N - 1)) cb F G w s nw ns np (0 :: 0 :: 0 :: c) H K2 w' s' nw' ns' np' c [] [] ∧ (st_sf ls ls' ∧ st_pre cs cs' ∧ i < i' ∧ np' ≤ 50) ∧ (K2 65 (N - 1) = o ∧ (∀ l, l < N → K2 62 l = G 62 l) ∧ (∀ l, l + 1 < N → K2 65 l = G 65 l) ∧ ∀ x, x < off N → ∀ e6, e6 = 60 ∨ e6 = 61 → K2 e6 x = G e6 x) ∧ w' + 5 + 6 * i ≤ w + 6 * i' ∧ s' + 2 + 4 * i ≤ s + 4 * i' ∧ nw' + i ≤ nw + i' ∧ ns' + i ≤ ns + i') ∨ ∃ e p, rba nn F (dk_267 F ln i0 v0) e p ∧ sx T n G0 c0 O e p N (zz D + 30) K) := by
  have hz : 6310 ≤ zz D ∧ zz D < 9800 ∧ zz (D + 1) + 110 = zz D := by unfold zz; omega
  have hB0 := hB
  obtain ⟨m1, m2, m3, m4, m5, m6, m7, m8, m9, m10, m11, m12⟩ := hB
  have hM1 := hM.1
  have hiM := hr.1.2.2.1
  have hN := hb.1.1
  have h62 := hb.2.2.2.2.2.1
  have hw0 : F 0 41 = w := hr.2.1.2.1
  have hc3 : hg (0 :: 0 :: 0 :: c) = hg c + 3 := by rw [hg_0, hg_0, hg_0]
  have hc4 : G 11 4 = s := hc.2.1.1
  unfold dk_127_82
  rw [Nat.mod_eq_of_lt (show D + 1 < 4294967296 by omega), Nat.mod_eq_of_lt (show hg c + 4 < 4294967296 by omega), Nat.mod_eq_of_lt (show hg c + 3 < 4294967296 by omega)]
  refine wok_b (cy_78 (op := 31) (a := hg c) (b := 0) (ln := ln) hc hb (by omega) (okj_p (by decide))) fun r1 K1 h1 => ?_
  dsimp only
  obtain ⟨_, c1, b1, i1, q1, _⟩ := h1
  rw [show K1 11 4 = s + 1 from c1.2.1.1]
  refine wok_b (cy_78 (op := 0) (a := 0) (b := 0) (ln := 0) c1 b1 (by omega) (okj_p (by decide))) fun r2 K2 h2 => ?_
  dsimp only
  obtain ⟨_, c2, b2, i2, q2, _⟩ := h2
  refine wok_b (cy_78 (op := 32) (a := hg c) (b := 4294967295) (ln := 0) c2 b2 (by omega) (okj_n (by decide))) fun r3 K3 h3 => ?_
  dsimp only
  obtain ⟨hr3, c3, b3, i3, q3, _⟩ := h3
  rw [hr3, dkS_165 (l := N - 1) (by have := b3.1.1; omega) (by omega), od_bS]
  dsimp only
  have c4 : cy T n G0 c0 O i cs (s + 1 + 1 + 1) ns np N Q (wq_up K3 65 (N - 1) (s + 1 + 1)) := cy_br c3 (okj_p (by omega))
  have b4 : bz N (at_N off N (off N + 1)) voff ph cx (0 :: 0 :: 0 :: c) np F ls (wq_up K3 65 (N - 1) (s + 1 + 1)) cs := bz_gu b3 (by omega)
  have k4a : ∀ d j, ¬ d = 65 → wq_up K3 65 (N - 1) (s + 1 + 1) d j = K3 d j := fun d j q => wq_up_cell q
  have k4b : wq_up K3 65 (N - 1) (s + 1 + 1) 65 (N - 1) = s + 1 + 1 := wq_up_same _ _ _ _
  have k4c : ∀ l, l + 1 < N → wq_up K3 65 (N - 1) (s + 1 + 1) 65 l = K3 65 l := fun l hl => wq_up_at (by omega)
  generalize wq_up K3 65 (N - 1) (s + 1 + 1) = K4 at *
  have k4G : ∀ d j, (17 ≤ d ∧ d ≤ 23) ∨ (12 ≤ d ∧ d ≤ 15 ∧ j < s) ∨ (d = 16 ∧ j < ns) ∨ d = 62 ∨ d = 61 ∨ d = 60 → K4 d j = G d j := fun d j q => by
    rw [k4a d j (by omega), q3 d j (by omega), q2 d j (by omega), q1 d j (by omega)]
  -- do
  refine wok_b (bt_wd (x := 3) (B := 6230) hM hr c4 b4 (by decide) (by omega) hc0 hO (by omega) (by omega) m5 (by omega)) fun r5 K5 h5 => ?_
  dsimp only
  rcases h5 with ⟨iM, e5, ms, c5, b5, f5, p5⟩ | ⟨kk, e5, hx⟩
  rotate_left
  · have hd : dk_267 F ln i0 v0 = some (0, pm_f F kk (tk_pos T n i)) := by
      unfold dk_267
      rw [e5, od_bS]
      dsimp only
      rw [if_pos rfl]
    exact wok_m (sx_ft (op := 33) (aB := hg c) hx hao (by omega) hn (by omega) (okj_p (by omega)) ho) fun r K h => Or.inr ⟨_, _, rba_f hd (rm_fr_refl _) (by omega), sx_le h (by omega)⟩
  have r5' := ry_nx hr iM
  have ff5 : rm_fr F (wq_up F 0 25 (i + 1)) := rm_fr_up (rm_fr_refl _) (by decide) (by decide)
  have x5 : ∀ d j, ¬ d = 0 → wq_up F 0 25 (i + 1) d j = F d j := fun d j q => wq_up_cell q
  have b5F : bz N (at_N off N (off N + 1)) voff ph cx (0 :: 0 :: 0 :: c) np (wq_up F 0 25 (i + 1)) ls K5 ms := bz_fu b5 (by omega)
  have hd : dk_267 F ln i0 v0 = (dk_30 (wq_up F 0 25 (i + 1)) 39 0 0 ln).bind fun y6 => (dk_30 y6.2 0 0 0 0).bind fun y10 => (dk_227 y10.2).bind fun y14 => od_let (((y14.2 0 56) + (4294967296 - 1)) % 4294967296) fun y18 => (dk_30 y14.2 40 4294967295 v0 0).bind fun y21 => od_g (y18 < 64) <| od_up y21.2 33 y18 y21.1 fun F26 => (dk_31 F26 34 y10.1 v0 (F26 0 50)).bind fun y29 => od_g (i0 < 1502) <| od_let (18446744073709551616 + y29.2 11 i0) fun y34 => (dk_220 y29.2 (ev_oL2i y34) v0).bind fun y37 => (dk_31 y37.2 0 0 0 0).bind fun y41 => some (1, y41.2) := by
    unfold dk_267
    rw [e5, od_bS]
    dsimp only
    rw [if_neg (by decide)]
  generalize dk_267 F ln i0 v0 = mm at *
  generalize wq_up F 0 25 (i + 1) = F5 at *
  have w5 : F5 0 41 = w := r5'.2.1.2.1
  have at6 := pm_em_at (F := F5) (op := 39) (a := 0) (b := 0) (ln := ln)
  rw [w5] at at6
  rw [dkS_30 (by omega), od_bS] at hd
  dsimp only at hd
  have r6 : ry T n M (i + 1) ls t (w + 1) nw np W L P (pm_em F5 39 0 0 ln) := ry_em r5'
  have x6 : ∀ d j, ¬ d = 0 → ¬ (20 ≤ d ∧ d ≤ 23 ∧ j = w) → pm_em F5 39 0 0 ln d j = F d j := fun d j a b => by rw [pm_em_ne (by omega) (by omega), x5 d j a]
  have b6 := bz_em (op := 39) (a := 0) (b := 0) (ln := ln) b5F
  have ff6 : rm_fr F (pm_em F5 39 0 0 ln) := rm_fr_em ff5
  generalize pm_em F5 39 0 0 ln = F6 at *
  have w6 : F6 0 41 = w + 1 := r6.2.1.2.1
  have at7 := pm_em_at (F := F6) (op := 0) (a := 0) (b := 0) (ln := 0)
  rw [w6] at at7
  rw [dkS_30 (by omega), od_bS, w6] at hd
  dsimp only at hd
  have r7 : ry T n M (i + 1) ls t (w + 1 + 1) nw np W L P (pm_em F6 0 0 0 0) := ry_em r6
  have x7 : ∀ d j, ¬ d = 0 → ¬ (20 ≤ d ∧ d ≤ 23 ∧ w ≤ j) → pm_em F6 0 0 0 0 d j = F d j := fun d j a b => by rw [pm_em_ne (by omega) (by omega), x6 d j a (by omega)]
  have y7 : pm_em F6 0 0 0 0 20 w = 39 ∧ pm_em F6 0 0 0 0 23 w = ln ∧ pm_em F6 0 0 0 0 20 (w + 1) = 0 := ⟨by rw [pm_em_ne (by omega) (by omega)]; exact at6.1, by rw [pm_em_ne (by omega) (by omega)]; exact at6.2.2.2.1, at7.1⟩
  have b7 := bz_em (op := 0) (a := 0) (b := 0) (ln := 0) b6
  have ff7 : rm_fr F (pm_em F6 0 0 0 0) := rm_fr_em ff6
  generalize pm_em F6 0 0 0 0 = F7 at *
  obtain ⟨F8, e8, r8, x8⟩ := ry_op r7 (by have := m9.1; omega)
  rw [e8, od_bS] at hd
  dsimp only at hd
  have h53 : F7 0 53 = N - 1 := by have := b7.1.1; omega
  rw [h53] at r8
  have h856 : F8 0 56 = L.length + 1 := r8.2.2.2.1.1
  have h841 : F8 0 41 = w + 1 + 1 := r8.2.1.2.1
  have b8 : bz N (at_N off N (off N + 1)) voff ph cx (0 :: 0 :: 0 :: c) np F8 ls K5 ms := bz_F b7 ⟨fun d hd => funext fun j => x8 d j (by omega) (by omega), x8 0 50 (by omega) (by omega), x8 0 53 (by omega) (by omega)⟩
  rw [h856, show (L.length + 1 + (4294967296 - 1)) % 4294967296 = L.length by omega, od_letS, dkS_30 (by omega), od_bS, h841] at hd
  dsimp only at hd
  rw [od_g1 (by have := m9.1; omega), od_upS] at hd
  have at10 := pm_em_at (F := F8) (op := 40) (a := 4294967295) (b := v0) (ln := 0)
  rw [h841] at at10
  have r10 : ry T n M (i + 1) ls t (w + 1 + 1 + 1) nw np W ((w + 1 + 1, N - 1) :: L) P (wq_up (pm_em F8 40 4294967295 v0 0) 33 L.length (w + 1 + 1)) := ry_ch (ry_em r8)
  have b10 : bz N (at_N off N (off N + 1)) voff ph cx (0 :: 0 :: 0 :: c) np (wq_up (pm_em F8 40 4294967295 v0 0) 33 L.length (w + 1 + 1)) ls K5 ms := bz_fu (bz_em b8) (by omega)
  have x10 : ∀ d j, ¬ d = 0 → ¬ (20 ≤ d ∧ d ≤ 23 ∧ w ≤ j) → ¬ (d = 33 ∨ d = 34) → wq_up (pm_em F8 40 4294967295 v0 0) 33 L.length (w + 1 + 1) d j = F d j := fun d j a b e => by
    rw [wq_up_cell (by omega), pm_em_ne (by omega) (by omega), x8 d j (by omega) (by omega), x7 d j a b]
  have z10 : ∀ d j, 20 ≤ d → d ≤ 23 → ¬ j = w + 1 + 1 → wq_up (pm_em F8 40 4294967295 v0 0) 33 L.length (w + 1 + 1) d j = F7 d j := fun d j a b e => by
    rw [wq_up_cell (by omega), pm_em_ne (by omega) (by omega), x8 d j (by omega) (by omega)]
  have y10 : wq_up (pm_em F8 40 4294967295 v0 0) 33 L.length (w + 1 + 1) 20 (w + 1 + 1) = 40 ∧ wq_up (pm_em F8 40 4294967295 v0 0) 33 L.length (w + 1 + 1) 21 (w + 1 + 1) = 4294967295 ∧ wq_up (pm_em F8 40 4294967295 v0 0) 33 L.length (w + 1 + 1) 22 (w + 1 + 1) = v0 := ⟨(wq_up_cell (by decide)).trans at10.1, (wq_up_cell (by decide)).trans at10.2.1, (wq_up_cell (by decide)).trans at10.2.2.1⟩
  have ff10 : rm_fr F (wq_up (pm_em F8 40 4294967295 v0 0) 33 L.length (w + 1 + 1)) := rm_fr_up (rm_fr_em (rm_fr_x ff7 (fun c j a b _ => x8 c j (by omega) (by omega)) ⟨x8 0 2 (by omega) (by omega), x8 0 8 (by omega) (by omega), x8 0 14 (by omega) (by omega)⟩)) (by decide) (fun z => absurd z (by decide))
  generalize wq_up (pm_em F8 40 4294967295 v0 0) 33 L.length (w + 1 + 1) = F10 at *
  have k5 : ∀ d j, (10 < d ∧ ¬ d = 57) → K5 d j = K4 d j := fun d j q => f5 d j (by omega) (by omega) (by omega)
  have k5G : ∀ d j, (17 ≤ d ∧ d ≤ 23) ∨ (12 ≤ d ∧ d ≤ 15 ∧ j < s) ∨ (d = 16 ∧ j < ns) ∨ d = 62 ∨ d = 61 ∨ d = 60 → K5 d j = G d j := fun d j q => (k5 d j (by omega)).trans (k4G d j q)
  have k5c : (K5 12 s = 31 ∧ K5 13 s = hg c ∧ K5 15 s = ln) ∧ K5 12 (s + 1) = 0 ∧ (K5 12 (s + 2) = 32 ∧ K5 13 (s + 2) = hg c ∧ K5 14 (s + 2) = 4294967295) := by
    refine ⟨⟨?_, ?_, ?_⟩, ?_, ⟨?_, ?_, ?_⟩⟩
    · rw [k5 12 s (by decide), k4a 12 s (by decide), q3 12 s (by omega), q2 12 s (by omega)]
      exact i1.1
    · rw [k5 13 s (by decide), k4a 13 s (by decide), q3 13 s (by omega), q2 13 s (by omega)]
      exact i1.2.1
    · rw [k5 15 s (by decide), k4a 15 s (by decide), q3 15 s (by omega), q2 15 s (by omega)]
      exact i1.2.2.2
    · rw [k5 12 (s + 1) (by decide), k4a 12 (s + 1) (by decide), q3 12 (s + 1) (by omega)]
      exact i2.1
    · rw [k5 12 (s + 2) (by decide), k4a 12 (s + 2) (by decide)]
      exact i3.1
    · rw [k5 13 (s + 2) (by decide), k4a 13 (s + 2) (by decide)]
      exact i3.2.1
    · rw [k5 14 (s + 2) (by decide), k4a 14 (s + 2) (by decide)]
      exact i3.2.2.1
  have k562 : ∀ l, K5 62 l = G 62 l := fun l => k5G 62 l (by omega)
  refine wok_m (for_tail1 (FA := F) (w := w + 1 + 1) (s := s + 1 + 1) (f := f) (i0 := i0) (m := 1) (v0 := v0) (st := w + 1) (ar := s + 1) hM hn hc0 hO hn2 hD hBk hkf htD r10 c5 b10 hoff hph (fun k a b => by rw [k5G 61 _ (by omega)]; exact h61c k a b) ((k562 _).trans hf) (by rw [x10 14 f (by decide) (by omega) (by decide)]; exact h14) ⟨hv, Nat.le_refl _⟩ rfl hc5 hfs (fun x a b => (k5G 61 x (by omega)).trans (hid x a b)) (fun j hj => by
    obtain ⟨a1, a2, a3⟩ := hnm j hj
    rw [k5G 60 _ (by omega)]
    exact ⟨a1, Nat.lt_of_lt_of_le a2 p5.1, by rw [p5.2 _ a2]; exact a3⟩) hi0 ⟨by omega, by omega, by omega, by omega, m5, m6, by omega, m8, m9, m10, m11, m12⟩ hW hL1 y10.2.1 k5c.2.2.2.2 ((k5 65 _ (by decide)).trans k4b) ho ⟨by omega, by omega⟩ hd ff10) fun r K hK => ?_
  rcases hK with ⟨i', w6', s6, nw6, ns6, np6, ls6, cs6, H, K2', eK, g6, r6', c6, b6', ⟨sf6, sp6, ii6, n6⟩, ⟨l1, l2, l3, l4, l5⟩, kaA, kbA, ⟨o1, o2, o3, o4⟩, body, u1, u2, u3, u4⟩ | ⟨e, p, ho', hx⟩
  rotate_left
  · exact Or.inr ⟨e, p, ho', sx_le hx (by omega)⟩
  have lvK : lvl N K5 = lvl N G := lvl_eq (fun l _ => k562 l)
  rw [lvK] at kaA kbA
  have rw1 : ∀ d p, 20 ≤ d → d ≤ 23 → p < w + 1 + 1 → H d p = F10 d p := fun d p a b e => by
    rw [kaA.1 d p a b (by omega), jl_ne (fun z => by have := List.mem_singleton.mp z.2; omega)]
  have rs1 : ∀ d p, 12 ≤ d → d ≤ 15 → p < s + 1 + 1 → K2' d p = K5 d p := fun d p a b e => by
    rw [kbA.1 d p a b (by omega), jl_ne (fun z => by have := List.mem_singleton.mp z.2; omega)]
  have wT : H 20 (w + 1 + 1) = 40 ∧ H 21 (w + 1 + 1) = w6' + 2 ∧ H 22 (w + 1 + 1) = v0 := by
    refine ⟨?_, ?_, ?_⟩
    · rw [kaA.1 20 _ (by decide) (by decide) (by omega), jl_ne (by omega)]
      exact y10.1
    · rw [kaA.1 21 _ (by decide) (by decide) (by omega), jl_at (List.mem_singleton.mpr rfl)]
    · rw [kaA.1 22 _ (by decide) (by decide) (by omega), jl_ne (by omega)]
      exact y10.2.2
  have sT : K2' 12 (s + 1 + 1) = 32 ∧ K2' 13 (s + 1 + 1) = hg c ∧ K2' 14 (s + 1 + 1) = s6 + 2 := by
    refine ⟨?_, ?_, ?_⟩
    · rw [kbA.1 12 _ (by decide) (by decide) (by omega), jl_ne (by omega)]
      exact k5c.2.2.1
    · rw [kbA.1 13 _ (by decide) (by decide) (by omega), jl_ne (by omega)]
      exact k5c.2.2.2.1
    · rw [kbA.1 14 _ (by decide) (by decide) (by omega), jl_at (List.mem_singleton.mpr rfl)]
  have kaF : ka F H w nw np (lvl N G) := ka_trans (ka_x (H := F10) (fun d j q => x10 d j (by omega) (by omega) (by omega))) (ka_trans (ka_x (w := w) (nw := nw) (m := np) (H := jl_up F10 21 [w + 1 + 1] (w6' + 2)) (fun d j q => jl_ne (fun z => by have := List.mem_singleton.mp z.2; omega))) kaA (by omega) (Nat.le_refl _) (Nat.le_refl _)) (Nat.le_refl _) (Nat.le_refl _) (Nat.le_refl _)
  have kbF : kb G K2' s ns np (lvl N G) := kb_trans (kb_x (H := K5) (fun d j q => k5G d j (by omega))) (kb_trans (kb_x (w := s) (nw := ns) (m := np) (H := jl_up K5 14 [s + 1 + 1] (s6 + 2)) (fun d j q => jl_ne (fun z => by have := List.mem_singleton.mp z.2; omega))) kbA (by omega) (Nat.le_refl _) (Nat.le_refl _)) (Nat.le_refl _) (Nat.le_refl _) (Nat.le_refl _)
  rw [k562 (N - 1)] at body
  have SG : sgm ls6 cs6 H K2' (G 62 (N - 1)) w (w6' + 4) s (s6 + 3) nw nw6 ns ns6 np np6 (0 :: 0 :: 0 :: c) c [] [] cb := by
    intro H' J nm X wb sb e1 e2 e3 _ _ e6
    rw [jl_nil] at e1 e2
    have rA : ∀ d p, 20 ≤ d → d ≤ 23 → w ≤ p → p < w6' + 4 → H' d p = H d p := e1.1
    have rB : ∀ d p, 12 ≤ d → d ≤ 15 → s ≤ p → p < s6 + 3 → J d p = K2' d p := e2.1
    have hst0 : H' 20 (w + 1) = 0 := by
      rw [rA 20 (w + 1) (by decide) (by decide) (by omega) (by omega), rw1 20 (w + 1) (by decide) (by decide) (by omega), z10 20 (w + 1) (by decide) (by decide) (by omega)]
      exact y7.2.2
    refine sg_2 (k := 14) (u := (G 62 (N - 1), w + 1, s + 1, (0 :: 0 :: 0 :: c))) ⟨?_, ?_, ?_, c, rfl, ?_, rfl⟩ ?_
    · show H' 20 w = 39
      rw [rA 20 w (by decide) (by decide) (by omega) (by omega), rw1 20 w (by decide) (by decide) (by omega), z10 20 w (by decide) (by decide) (by omega)]
      exact y7.1
    · show J 12 s = 31
      rw [rB 12 s (by decide) (by decide) (by omega) (by omega), rs1 12 s (by decide) (by decide) (by omega)]
      exact k5c.1.1
    · show H' 23 w = J 15 s
      rw [rA 23 w (by decide) (by decide) (by omega) (by omega), rw1 23 w (by decide) (by decide) (by omega), z10 23 w (by decide) (by decide) (by omega), y7.2.1, rB 15 s (by decide) (by decide) (by omega) (by omega), rs1 15 s (by decide) (by decide) (by omega), k5c.1.2.2]
    · show J 13 s = hg c
      rw [rB 13 s (by decide) (by decide) (by omega) (by omega), rs1 13 s (by decide) (by decide) (by omega)]
      exact k5c.1.2.1
    refine sg_loop (l := [(G 62 (N - 1), w + 1 + 1, s + 1 + 1, (0 :: 0 :: 0 :: c))]) (Or.inl ⟨0, hst0, ?_, rfl⟩) (fun v hv => ?_)
    · show J 12 (s + 1) = 0
      rw [rB 12 (s + 1) (by decide) (by decide) (by omega) (by omega), rs1 12 (s + 1) (by decide) (by decide) (by omega)]
      exact k5c.2.1
    rw [List.mem_singleton.mp hv]
    obtain ⟨B1, B2⟩ := body H' J nm (fun u => X u ∨ u = (G 62 (N - 1), w + 1, s + 1, (0 :: 0 :: 0 :: c))) hst0 (ag_2 e1 (by omega) (Nat.le_refl _) (Nat.le_refl _)) (bg_2 e2 (by omega) (Nat.le_refl _) (Nat.le_refl _)) e3 (sg_x (Or.inr rfl)) (sg_mono (fun u hu => sg_x (Or.inl hu)) e6)
    refine sg_s (l := [(G 62 (N - 1), w + 1 + 1 + 1, s + 1 + 1 + 1, lcs v0 1 ++ (0 :: 0 :: 0 :: c)), (G 62 (N - 1), w6' + 2, s6 + 2, (0 :: 0 :: 0 :: c))]) (Or.inr ⟨15, ?_, ?_, ?_, ?_, ?_, c, rfl, ?_, ?_⟩) (fun v hv => ?_)
    · show H' 20 (w + 1 + 1) = 40
      rw [rA 20 (w + 1 + 1) (by decide) (by decide) (by omega) (by omega)]
      exact wT.1
    · show J 12 (s + 1 + 1) = 32
      rw [rB 12 (s + 1 + 1) (by decide) (by decide) (by omega) (by omega)]
      exact sT.1
    · show H' 22 (w + 1 + 1) < 50
      rw [rA 22 (w + 1 + 1) (by decide) (by decide) (by omega) (by omega), wT.2.2]
      omega
    · show ¬ H' 22 (w + 1 + 1) + 5 ∈ (0 :: 0 :: 0 :: c)
      rw [rA 22 (w + 1 + 1) (by decide) (by decide) (by omega) (by omega), wT.2.2]
      intro z
      rcases List.mem_cons.mp z with z | z
      · omega
      rcases List.mem_cons.mp z with z | z
      · omega
      rcases List.mem_cons.mp z with z | z
      · omega
      have := hc5 _ z
      omega
    · show w + 1 + 1 < H' 21 (w + 1 + 1)
      rw [rA 21 (w + 1 + 1) (by decide) (by decide) (by omega) (by omega), wT.2.1]
      omega
    · show J 13 (s + 1 + 1) = hg c
      rw [rB 13 (s + 1 + 1) (by decide) (by decide) (by omega) (by omega)]
      exact sT.2.1
    · show _ = [(G 62 (N - 1), w + 1 + 1 + 1, s + 1 + 1 + 1, (H' 22 (w + 1 + 1) + 5) :: (0 :: 0 :: 0 :: c)), (G 62 (N - 1), H' 21 (w + 1 + 1), J 14 (s + 1 + 1), (0 :: 0 :: 0 :: c))]
      rw [rA 22 (w + 1 + 1) (by decide) (by decide) (by omega) (by omega), wT.2.2, rA 21 (w + 1 + 1) (by decide) (by decide) (by omega) (by omega), wT.2.1, rB 14 (s + 1 + 1) (by decide) (by decide) (by omega) (by omega), sT.2.2]
      rfl
    · rcases List.mem_cons.mp hv with z | z
      · rw [z]
        exact B1
      · rw [List.mem_singleton.mp z]
        exact B2 [] (fun e he => absurd he (List.not_mem_nil))
  have PJ : pj ls6 cs6 (lvl N G) (G 62 (N - 1)) cb F G w s nw ns np (0 :: 0 :: 0 :: c) H K2' (w6' + 4) (s6 + 3) nw6 ns6 np6 c [] [] := ⟨⟨by omega, by omega, by omega, by omega, by omega⟩, kaF, kbF, ⟨fun j hj => absurd hj (List.not_mem_nil), fun j hj => absurd hj (List.not_mem_nil)⟩, SG⟩
  refine Or.inl ⟨i', w6' + 4, s6 + 3, nw6, ns6, np6, ls6, cs6, H, K2', eK, g6, r6', c6, b6', PJ, ⟨sf6, st_pre_trans p5 sp6, by omega, n6⟩, ⟨o1, fun l hl => (o2 l hl).trans (k562 l), fun l hl => ?_, fun x hx e6 h6 => (o4 x hx e6 h6).trans (k5G e6 x (by omega))⟩, by omega, by omega, by omega, by omega⟩
  rw [o3 l hl, k5 65 l (by decide), k4c l hl, q3 65 l (by omega), q2 65 l (by omega), q1 65 l (by omega)]
end
