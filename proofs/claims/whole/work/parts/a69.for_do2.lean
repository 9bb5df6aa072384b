/-! ===== a69: a loop over rows behind its row (wip/whole2/lawa69.py) ===== -/
theorem dv_100b : ∀ m, m < 51 → ∀ v, v < 51 → ((ev_oMul m 100) + v) % 4294967296 = m * 100 + v := by
  intro m hm v hv
  show ((m * 100) % 4294967296 + v) % 4294967296 = _
  omega
section
variable {nn : Nat} {T : Nat → Nat} {n M O : Nat} {G0 : wq_F} {c0 : List (List Nat)} {i t w s nw ns np N : Nat} {off voff ph : Nat → Nat} {cx : Nat → List Nat} {c cb : List Nat} {W : List (Nat × Nat × Nat × Nat)} {L : List (Nat × Nat)} {P Q : List (Nat × Nat × Nat)} {ls cs : List (List Nat)} {F G : wq_F}

variable {f i0 m v0 : Nat}
theorem sx_128 {k d a h o mn ln ar e p : Nat} (ha : a ≤ 1200) (hk : 1 ≤ k) (hn : 10000 < nn) (hag : okj ar) (ho : okj o) : ∀ (y x g B : Nat) (G : wq_F), x + y = 3 → y < g → B + y + 8 < 10000 → okj mn → sx T n G0 c0 O e p N B G → wok (dk_128_80 (dk_R nn k) nn g G d a o h mn ln ar x) (fun _ K => sx T n G0 c0 O e p N (B + y + 5) K) := by
  intro y
  induction y with
  | zero =>
    intro x g B G hx hgy hB hmn hs0
    obtain ⟨g, rfl⟩ : ∃ z, g = z + 1 := ⟨g - 1, by omega⟩
    show wok (dk_128_80b (dk_R nn k) nn (dk_128_80 (dk_R nn k) nn g) G d a o h mn ln ar x) _
    unfold dk_128_80b
    refine wok_f (fun z => by have := (wd_slt (by omega) (by omega)).mp z; omega) ?_
    refine wok_b (sx_78 hs0 (by omega) hmn) fun r K1 h => ?_
    refine wok_b (sx_78 h.2 (by omega) (okj_n (by decide))) fun r K2 h => ?_
    refine wok_b (sx_165 h.2 (okj_p h.1)) fun r K3 h => ?_
    refine wok_b (sx_110 h (by decide)) fun r K4 h => ?_
    refine wok_l ?_
    refine wok_b (sx_162 h) fun r K hx => ?_
    refine wok_b (sx_167 hx ha hn) fun r K hx => ?_
    refine wok_b (sx_80 hx hk hn) fun r K hx => ?_
    refine wok_b (sx_110 hx (by decide)) fun r K hx => ?_
    refine wok_b (sx_113 hx (by omega)) fun r K hx => ?_
    refine wok_b (sx_78 hx (by omega) hag) fun r K hx => ?_
    exact wok_b (sx_120 hx.2 (by omega) ho hn) fun r K h => wok_r (sx_le h (by omega))
  | succ y ih =>
    intro x g B G hx hgy hB hmn hs0
    obtain ⟨g, rfl⟩ : ∃ z, g = z + 1 := ⟨g - 1, by omega⟩
    show wok (dk_128_80b (dk_R nn k) nn (dk_128_80 (dk_R nn k) nn g) G d a o h mn ln ar x) _
    unfold dk_128_80b
    refine wok_t ((wd_slt (by omega) (by omega)).mpr (by omega)) ?_
    refine wok_b (sx_78 hs0 (by omega) (okj_p (by decide))) fun r K1 h => ?_
    refine wok_l ?_
    rw [Nat.mod_eq_of_lt (show x + 1 < 4294967296 by omega)]
    exact wok_m (ih (x + 1) g (B + 1) K1 (by omega) (by omega) (by omega) hmn h.2) fun r K h => sx_le h (by omega)
set_option maxHeartbeats 4000000 in
/-- from the values of its row on -/
theorem for_do2 {D k ln o : Nat} {mm : Option (Nat × wq_F)} {FA F5 : wq_F} (hM : tk_M T n M) (hn : 10000 < nn) (hc0 : c0.length ≤ 1400) (hO : O ≤ 20000) (hn2 : 14000 < nn) (hD : D ≤ 20) (hBk : Bk_ok nn T n M G0 c0 O (D + 1)) (hkf : 20 * (22 - D) + 10 ≤ k) (htD : t = D) (hr : ry T n M i ls t w nw np W L P F) (hc : cy T n G0 c0 O i cs s ns np N Q G) (hb : bz N (at_N off N (off N + m)) voff ph cx (0 :: 0 :: 0 :: c) np F ls G cs) (hoff : off (N - 1) ≤ off N ∧ voff (N - 1) ≤ voff N) (hph : ∀ k, k < voff N → ph k < off N) (h61c : ∀ k, voff (N - 1) ≤ k → k < voff N → G 61 (ph k) < hg c) (hf : G 62 (N - 1) = f) (h14 : v0 + m ≤ F 14 f) (hv : v0 + m ≤ 50 ∧ 1 ≤ m) (hc5 : ∀ e ∈ c, e < v0 + 5) (hfs : fs c) (hid : ∀ x, off N ≤ x → x < off N + m → G 61 x = 4294967295) (hnm : ∀ j, j < m → tk_k T n (i0 + 2 * j) = 1 ∧ G 60 (off N + j) < cs.length ∧ cs.getD (G 60 (off N + j)) [] = tk_B T n (tk_pos T n (i0 + 2 * j))) (hi0 : i0 + 2 * m ≤ M + 1) (hB : bnd i w s nw ns np t (hg c + 3 + m) W L P Q N) (hs : s + 5 ≤ 4 * i + 40) (hW : W.length ≤ 20 * t) (hL1 : L.length + 1 ≤ t) (hao : off N ≤ 1200) (ho : okj o) (hln : ln < 4294967296)
    (hF5 : F5 = wq_up F 0 25 (i + 1)) (hfA : rm_fr FA F5) (hgd : dk_214 F 3 = some (1, wq_up F 0 25 (i + 1)) → mm = (dk_30 F5 0 0 0 0).bind fun y14 => (dk_30 y14.2 42 m 0 ln).bind fun y18 => (dk_227 y18.2).bind fun y22 => od_let (((y22.2 0 56) + (4294967296 - 1)) % 4294967296) fun y26 => od_let (((ev_oMul m 100) + v0) % 4294967296) fun y29 => (dk_30 y22.2 43 4294967295 y29 0).bind fun y32 => od_g (y26 < 64) <| od_up y32.2 33 y26 y32.1 fun F37 => (dk_31 F37 36 y14.1 v0 (F37 0 50)).bind fun y40 => dk_269_114 nn nn y40.2 i0 m v0 0) (hbd : ∀ kk, dk_214 F 3 = some (0, pm_f F kk (tk_pos T n i)) → rba nn FA mm kk (tk_pos T n i)) : wok ((dk_78 G 0 0 0 0).bind fun y24 => dk_128_80 (dk_R nn k) nn nn y24.2 D (off N) o (hg c) m ln s 0) (fun _ K => (∃ i' w' s' nw' ns' np' ls' cs' H K2, wq_up K 59 3 (off N) = K2 ∧ rgo nn FA mm H ∧ ry T n M i' ls' t w' nw' np' W L P H ∧ cy T n G0 c0 O i' cs' s' ns' np' N Q K2 ∧ bz N off voff ph cx c np' H ls' K2 cs' ∧ pj ls' cs' (lvl N G) (G 62 (N - 1)) cb F G w s nw ns np (0 :: 0 :: 0 :: c) H K2 w' s' nw' ns' np' c [] [] ∧ (st_sf ls ls' ∧ st_pre cs cs' ∧ i < i' ∧ np' ≤ 50) ∧ (K2 65 (N - 1) = o ∧ (∀ l, l < N → K2 62 l = G 62 l) ∧ (∀ l, l + 1 < N → K2 65 l = G 65 l) ∧ ∀ x, x < off N → ∀ e6, e6 = 60 ∨ e6 = 61 → K2 e6 x = G e6 x) ∧ w' + 5 + 6 * i ≤ w + 6 * i' ∧ s' + 4 * i ≤ s + 4 * i' + 1 ∧ nw' + i ≤ nw + i' ∧ ns' + i ≤ ns + i') ∨ ∃ e p, rba nn FA mm e p ∧ sx T n G0 c0 O e p N (zz D + 30) K) := by
  have hz : 6310 ≤ zz D ∧ zz D < 9800 ∧ zz (D + 1) + 110 = zz D := by unfold zz; omega
  obtain ⟨m1, m2, m3, m4, m5, m6, m7, m8, m9, m10, m11, m12⟩ := hB
  have hM1 := hM.1
  have hiM := hr.1.2.2.1
  have hN := hb.1.1
  have h62 := hb.2.2.2.2.2.1
  have hw0 : F 0 41 = w := hr.2.1.2.1
  have hc3 : hg (0 :: 0 :: 0 :: c) = hg c + 3 := by rw [hg_0, hg_0, hg_0]
  obtain ⟨g0, hg0⟩ : ∃ a, nn = a + 4 := ⟨nn - 4, by omega⟩
  -- the class
  refine wok_b (cy_78 (op := 0) (a := 0) (b := 0) (ln := 0) hc hb (by omega) (okj_p (by decide))) fun r1 K1 h1 => ?_
  dsimp only
  obtain ⟨_, c1, b1, i1, q1, _⟩ := h1
  rw [show dk_128_80 (dk_R nn k) nn nn = dk_128_80 (dk_R nn k) nn (g0 + 4) by rw [← hg0]]
  show wok (dk_128_80b (dk_R nn k) nn (dk_128_80 (dk_R nn k) nn (g0 + 3)) K1 D (off N) o (hg c) m ln s 0) _
  unfold dk_128_80b
  refine wok_t (by decide) ?_
  rw [Nat.mod_eq_of_lt (show hg c + 0 < 4294967296 by omega)]
  refine wok_b (cy_78 (op := 5) (a := hg c + 0) (b := 0) (ln := 0) c1 b1 (by omega) (okj_p (by decide))) fun r2 K2 h2 => ?_
  refine wok_l ?_
  obtain ⟨_, c2, b2, i2, q2, _⟩ := h2
  show wok (dk_128_80b (dk_R nn k) nn (dk_128_80 (dk_R nn k) nn (g0 + 2)) K2 D (off N) o (hg c) m ln s 1) _
  unfold dk_128_80b
  refine wok_t (by decide) ?_
  rw [Nat.mod_eq_of_lt (show hg c + 1 < 4294967296 by omega)]
  refine wok_b (cy_78 (op := 5) (a := hg c + 1) (b := 0) (ln := 0) c2 b2 (by omega) (okj_p (by decide))) fun r3 K3 h3 => ?_
  refine wok_l ?_
  obtain ⟨_, c3, b3, i3, q3, _⟩ := h3
  show wok (dk_128_80b (dk_R nn k) nn (dk_128_80 (dk_R nn k) nn (g0 + 1)) K3 D (off N) o (hg c) m ln s 2) _
  unfold dk_128_80b
  refine wok_t (by decide) ?_
  rw [Nat.mod_eq_of_lt (show hg c + 2 < 4294967296 by omega)]
  refine wok_b (cy_78 (op := 5) (a := hg c + 2) (b := 0) (ln := 0) c3 b3 (by omega) (okj_p (by decide))) fun r4 K4 h4 => ?_
  refine wok_l ?_
  obtain ⟨_, c4, b4, i4, q4, _⟩ := h4
  show wok (dk_128_80b (dk_R nn k) nn (dk_128_80 (dk_R nn k) nn g0) K4 D (off N) o (hg c) m ln s 3) _
  unfold dk_128_80b
  refine wok_f (by decide) ?_
  rw [Nat.mod_eq_of_lt (show D + 1 < 4294967296 by omega), Nat.mod_eq_of_lt (show hg c + 3 < 4294967296 by omega), Nat.mod_eq_of_lt (show hg c + 3 + m < 4294967296 by omega)]
  refine wok_b (cy_78 (op := 19) (a := hg c + 3) (b := m) (ln := ln) c4 b4 (by omega) (okj_p (by omega))) fun r5 K5 h5 => ?_
  dsimp only
  obtain ⟨_, c5, b5, i5, q5, _⟩ := h5
  refine wok_b (cy_78 (op := 34) (a := hg c) (b := 4294967295) (ln := 0) c5 b5 (by omega) (okj_n (by decide))) fun r6 K6 h6 => ?_
  dsimp only
  obtain ⟨hr6, c6, b6, i6, q6, _⟩ := h6
  rw [hr6, dkS_165 (l := N - 1) (by have := b6.1.1; omega) (by omega), od_bS]
  dsimp only
  have c7 : cy T n G0 c0 O i cs (s + 1 + 1 + 1 + 1 + 1 + 1) ns np N Q (wq_up K6 65 (N - 1) (s + 1 + 1 + 1 + 1 + 1)) := cy_br c6 (okj_p (by omega))
  have b7 : bz N (at_N off N (off N + m)) voff ph cx (0 :: 0 :: 0 :: c) np F ls (wq_up K6 65 (N - 1) (s + 1 + 1 + 1 + 1 + 1)) cs := bz_gu b6 (by omega)
  have k7a : ∀ d j, ¬ d = 65 → wq_up K6 65 (N - 1) (s + 1 + 1 + 1 + 1 + 1) d j = K6 d j := fun d j q => wq_up_cell q
  have k7b : wq_up K6 65 (N - 1) (s + 1 + 1 + 1 + 1 + 1) 65 (N - 1) = s + 1 + 1 + 1 + 1 + 1 := wq_up_same _ _ _ _
  have k7c : ∀ l, l + 1 < N → wq_up K6 65 (N - 1) (s + 1 + 1 + 1 + 1 + 1) 65 l = K6 65 l := fun l hl => wq_up_at (by omega)
  generalize wq_up K6 65 (N - 1) (s + 1 + 1 + 1 + 1 + 1) = K7 at *
  have k6G : ∀ d j, (17 ≤ d ∧ d ≤ 23) ∨ (12 ≤ d ∧ d ≤ 15 ∧ j < s) ∨ (d = 16 ∧ j < ns) ∨ d = 62 ∨ d = 61 ∨ d = 60 ∨ d = 65 → K6 d j = G d j := fun d j q => by
    rw [q6 d j (by omega), q5 d j (by omega), q4 d j (by omega), q3 d j (by omega), q2 d j (by omega), q1 d j (by omega)]
  -- do
  refine wok_b (bt_wd (x := 3) (B := 6240) hM hr c7 b7 (by decide) (by omega) hc0 hO (by omega) (by omega) m5 (by omega)) fun r8 K8 h8 => ?_
  dsimp only
  refine wok_l ?_
  rcases h8 with ⟨iM, e8, ms, c8, b8, f8, p8⟩ | ⟨kk, e8, hx⟩
  rotate_left
  · exact wok_m (sx_ft (op := 21) (aB := 0) hx hao (by omega) hn (by omega) (okj_p (by omega)) ho) fun r K h => Or.inr ⟨_, _, hbd kk e8, sx_le h (by omega)⟩
  have r5' : ry T n M (i + 1) ls t w nw np W L P F5 := by
    rw [hF5]
    exact ry_nx hr iM
  have x5 : ∀ d j, ¬ d = 0 → F5 d j = F d j := fun d j q => by
    rw [hF5]
    exact wq_up_cell q
  have b5F : bz N (at_N off N (off N + m)) voff ph cx (0 :: 0 :: 0 :: c) np F5 ls K8 ms := by
    rw [hF5]
    exact bz_fu b8 (by omega)
  have hd := hgd e8
  have w5 : F5 0 41 = w := r5'.2.1.2.1
  have at6 := pm_em_at (F := F5) (op := 0) (a := 0) (b := 0) (ln := 0)
  rw [w5] at at6
  rw [dkS_30 (by omega), od_bS, w5] at hd
  dsimp only at hd
  have r6 : ry T n M (i + 1) ls t (w + 1) nw np W L P (pm_em F5 0 0 0 0) := ry_em r5'
  have x6 : ∀ d j, ¬ d = 0 → ¬ (20 ≤ d ∧ d ≤ 23 ∧ j = w) → pm_em F5 0 0 0 0 d j = F d j := fun d j a b => by rw [pm_em_ne (by omega) (by omega), x5 d j a]
  have b6' := bz_em (op := 0) (a := 0) (b := 0) (ln := 0) b5F
  have ff6 : rm_fr FA (pm_em F5 0 0 0 0) := rm_fr_em hfA
  generalize pm_em F5 0 0 0 0 = F6 at *
  have w6 : F6 0 41 = w + 1 := r6.2.1.2.1
  have at7 := pm_em_at (F := F6) (op := 42) (a := m) (b := 0) (ln := ln)
  rw [w6] at at7
  rw [dkS_30 (by omega), od_bS] at hd
  dsimp only at hd
  have r7 : ry T n M (i + 1) ls t (w + 1 + 1) nw np W L P (pm_em F6 42 m 0 ln) := ry_em r6
  have x7 : ∀ d j, ¬ d = 0 → ¬ (20 ≤ d ∧ d ≤ 23 ∧ w ≤ j) → pm_em F6 42 m 0 ln d j = F d j := fun d j a b => by rw [pm_em_ne (by omega) (by omega), x6 d j a (by omega)]
  have y7 : pm_em F6 42 m 0 ln 20 w = 0 ∧ pm_em F6 42 m 0 ln 20 (w + 1) = 42 ∧ pm_em F6 42 m 0 ln 21 (w + 1) = m ∧ pm_em F6 42 m 0 ln 23 (w + 1) = ln := ⟨by rw [pm_em_ne (by omega) (by omega)]; exact at6.1, at7.1, at7.2.1, at7.2.2.2.1⟩
  have b7' := bz_em (op := 42) (a := m) (b := 0) (ln := ln) b6'
  have ff7 : rm_fr FA (pm_em F6 42 m 0 ln) := rm_fr_em ff6
  generalize pm_em F6 42 m 0 ln = F7 at *
  obtain ⟨F8, e8', r8', x8⟩ := ry_op r7 (by have := m9.1; omega)
  rw [e8', od_bS] at hd
  dsimp only at hd
  have h53 : F7 0 53 = N - 1 := by have := b7'.1.1; omega
  rw [h53] at r8'
  have h856 : F8 0 56 = L.length + 1 := r8'.2.2.2.1.1
  have h841 : F8 0 41 = w + 1 + 1 := r8'.2.1.2.1
  have b8' : bz N (at_N off N (off N + m)) voff ph cx (0 :: 0 :: 0 :: c) np F8 ls K8 ms := bz_F b7' ⟨fun d hd => funext fun j => x8 d j (by omega) (by omega), x8 0 50 (by omega) (by omega), x8 0 53 (by omega) (by omega)⟩
  rw [h856, show (L.length + 1 + (4294967296 - 1)) % 4294967296 = L.length by omega, od_letS, dv_100b m (by omega) v0 (by omega), od_letS, dkS_30 (by omega), od_bS, h841] at hd
  dsimp only at hd
  rw [od_g1 (by have := m9.1; omega), od_upS] at hd
  have at10 := pm_em_at (F := F8) (op := 43) (a := 4294967295) (b := m * 100 + v0) (ln := 0)
  rw [h841] at at10
  have r10 : ry T n M (i + 1) ls t (w + 1 + 1 + 1) nw np W ((w + 1 + 1, N - 1) :: L) P (wq_up (pm_em F8 43 4294967295 (m * 100 + v0) 0) 33 L.length (w + 1 + 1)) := ry_ch (ry_em r8')
  have b10 : bz N (at_N off N (off N + m)) voff ph cx (0 :: 0 :: 0 :: c) np (wq_up (pm_em F8 43 4294967295 (m * 100 + v0) 0) 33 L.length (w + 1 + 1)) ls K8 ms := bz_fu (bz_em b8') (by omega)
  have x10 : ∀ d j, ¬ d = 0 → ¬ (20 ≤ d ∧ d ≤ 23 ∧ w ≤ j) → ¬ (d = 33 ∨ d = 34) → wq_up (pm_em F8 43 4294967295 (m * 100 + v0) 0) 33 L.length (w + 1 + 1) d j = F d j := fun d j a b e => by
    rw [wq_up_cell (by omega), pm_em_ne (by omega) (by omega), x8 d j (by omega) (by omega), x7 d j a b]
  have z10 : ∀ d j, 20 ≤ d → d ≤ 23 → ¬ j = w + 1 + 1 → wq_up (pm_em F8 43 4294967295 (m * 100 + v0) 0) 33 L.length (w + 1 + 1) d j = F7 d j := fun d j a b e => by
    rw [wq_up_cell (by omega), pm_em_ne (by omega) (by omega), x8 d j (by omega) (by omega)]
  have y10 : wq_up (pm_em F8 43 4294967295 (m * 100 + v0) 0) 33 L.length (w + 1 + 1) 20 (w + 1 + 1) = 43 ∧ wq_up (pm_em F8 43 4294967295 (m * 100 + v0) 0) 33 L.length (w + 1 + 1) 21 (w + 1 + 1) = 4294967295 ∧ wq_up (pm_em F8 43 4294967295 (m * 100 + v0) 0) 33 L.length (w + 1 + 1) 22 (w + 1 + 1) = m * 100 + v0 := ⟨(wq_up_cell (by decide)).trans at10.1, (wq_up_cell (by decide)).trans at10.2.1, (wq_up_cell (by decide)).trans at10.2.2.1⟩
  have ff10 : rm_fr FA (wq_up (pm_em F8 43 4294967295 (m * 100 + v0) 0) 33 L.length (w + 1 + 1)) := rm_fr_up (rm_fr_em (rm_fr_x ff7 (fun c j a b _ => x8 c j (by omega) (by omega)) ⟨x8 0 2 (by omega) (by omega), x8 0 8 (by omega) (by omega), x8 0 14 (by omega) (by omega)⟩)) (by decide) (fun z => absurd z (by decide))
  generalize wq_up (pm_em F8 43 4294967295 (m * 100 + v0) 0) 33 L.length (w + 1 + 1) = F10 at *
  have k8 : ∀ d j, (10 < d ∧ ¬ d = 57) → K8 d j = K7 d j := fun d j q => f8 d j (by omega) (by omega) (by omega)
  have k8G : ∀ d j, (17 ≤ d ∧ d ≤ 23) ∨ (12 ≤ d ∧ d ≤ 15 ∧ j < s) ∨ (d = 16 ∧ j < ns) ∨ d = 62 ∨ d = 61 ∨ d = 60 → K8 d j = G d j := fun d j q => (k8 d j (by omega)).trans ((k7a d j (by omega)).trans (k6G d j (by omega)))
  have k8c : K8 12 s = 0 ∧ (K8 12 (s + 1) = 5 ∧ K8 13 (s + 1) = hg c) ∧ (K8 12 (s + 2) = 5 ∧ K8 13 (s + 2) = hg c + 1) ∧ (K8 12 (s + 3) = 5 ∧ K8 13 (s + 3) = hg c + 2) ∧ cI K8 (s + 4) 19 (hg c + 3) m ln ∧ (K8 12 (s + 5) = 34 ∧ K8 13 (s + 5) = hg c ∧ K8 14 (s + 5) = 4294967295) := by
    have e6 : ∀ d j, 12 ≤ d → d ≤ 15 → K8 d j = K6 d j := fun d j a b => (k8 d j (by omega)).trans (k7a d j (by omega))
    refine ⟨?_, ⟨?_, ?_⟩, ⟨?_, ?_⟩, ⟨?_, ?_⟩, ⟨?_, ?_, ?_, ?_⟩, ⟨?_, ?_, ?_⟩⟩
    · rw [e6 12 s (by decide) (by decide), q6 12 s (by omega), q5 12 s (by omega), q4 12 s (by omega), q3 12 s (by omega), q2 12 s (by omega)]
      exact i1.1
    · rw [e6 12 _ (by decide) (by decide), q6 12 _ (by omega), q5 12 _ (by omega), q4 12 _ (by omega), q3 12 _ (by omega)]
      exact i2.1
    · rw [e6 13 _ (by decide) (by decide), q6 13 _ (by omega), q5 13 _ (by omega), q4 13 _ (by omega), q3 13 _ (by omega)]
      exact i2.2.1
    · rw [e6 12 _ (by decide) (by decide), q6 12 _ (by omega), q5 12 _ (by omega), q4 12 _ (by omega)]
      exact i3.1
    · rw [e6 13 _ (by decide) (by decide), q6 13 _ (by omega), q5 13 _ (by omega), q4 13 _ (by omega)]
      exact i3.2.1
    · rw [e6 12 _ (by decide) (by decide), q6 12 _ (by omega), q5 12 _ (by omega)]
      exact i4.1
    · rw [e6 13 _ (by decide) (by decide), q6 13 _ (by omega), q5 13 _ (by omega)]
      exact i4.2.1
    · rw [e6 12 _ (by decide) (by decide), q6 12 _ (by omega)]
      exact i5.1
    · rw [e6 13 _ (by decide) (by decide), q6 13 _ (by omega)]
      exact i5.2.1
    · rw [e6 14 _ (by decide) (by decide), q6 14 _ (by omega)]
      exact i5.2.2.1
    · rw [e6 15 _ (by decide) (by decide), q6 15 _ (by omega)]
      exact i5.2.2.2
    · rw [e6 12 _ (by decide) (by decide)]
      exact i6.1
    · rw [e6 13 _ (by decide) (by decide)]
      exact i6.2.1
    · rw [e6 14 _ (by decide) (by decide)]
      exact i6.2.2.1
  have k862 : ∀ l, K8 62 l = G 62 l := fun l => k8G 62 l (by omega)
  refine wok_m (for_tail2 (FA := FA) (w := w + 1 + 1) (s := s + 1 + 1 + 1 + 1 + 1) (f := f) (i0 := i0) (m := m) (v0 := v0) (st := w) (ar := s) hM hn hc0 hO hn2 hD hBk hkf htD r10 c8 b10 hoff hph (fun k a b => by rw [k8G 61 _ (by omega)]; exact h61c k a b) ((k862 _).trans hf) (by rw [x10 14 f (by decide) (by omega) (by decide)]; exact h14) hv hc5 hfs (fun x a b => (k8G 61 x (by omega)).trans (hid x a b)) (fun j hj => by
    obtain ⟨a1, a2, a3⟩ := hnm j hj
    rw [k8G 60 _ (by omega)]
    exact ⟨a1, Nat.lt_of_lt_of_le a2 p8.1, by rw [p8.2 _ a2]; exact a3⟩) hi0 ⟨by omega, by omega, by omega, by omega, m5, m6, by omega, m8, m9, m10, m11, m12⟩ hW hL1 y10.2.1 k8c.2.2.2.2.2.2.2 ((k8 65 _ (by decide)).trans k7b) ho ⟨by omega, by omega⟩ hd ff10) fun r K hK => ?_
  rcases hK with ⟨i', w6', s6, nw6, ns6, np6, ls6, cs6, H, K2', eK, g6, r6', c6', b6'', ⟨sf6, sp6, ii6, n6⟩, ⟨l1, l2, l3, l4, l5⟩, kaA, kbA, ⟨o1, o2, o3, o4⟩, body, u1, u2, u3, u4⟩ | ⟨e, p, ho', hx⟩
  rotate_left
  · exact Or.inr ⟨e, p, ho', sx_le hx (by omega)⟩
  have lvK : lvl N K8 = lvl N G := lvl_eq (fun l _ => k862 l)
  rw [lvK] at kaA kbA
  have rw1 : ∀ d p, 20 ≤ d → d ≤ 23 → p < w + 1 + 1 → H d p = F10 d p := fun d p a b e => by
    rw [kaA.1 d p a b (by omega), jl_ne (fun z => by have := List.mem_singleton.mp z.2; omega)]
  have rs1 : ∀ d p, 12 ≤ d → d ≤ 15 → p < s + 1 + 1 + 1 + 1 + 1 → K2' d p = K8 d p := fun d p a b e => by
    rw [kbA.1 d p a b (by omega), jl_ne (fun z => by have := List.mem_singleton.mp z.2; omega)]
  have wT : H 20 (w + 1 + 1) = 43 ∧ H 21 (w + 1 + 1) = w6' + 2 ∧ H 22 (w + 1 + 1) = m * 100 + v0 := by
    refine ⟨?_, ?_, ?_⟩
    · rw [kaA.1 20 _ (by decide) (by decide) (by omega), jl_ne (by omega)]
      exact y10.1
    · rw [kaA.1 21 _ (by decide) (by decide) (by omega), jl_at (List.mem_singleton.mpr rfl)]
    · rw [kaA.1 22 _ (by decide) (by decide) (by omega), jl_ne (by omega)]
      exact y10.2.2
  have sT : K2' 12 (s + 5) = 34 ∧ K2' 13 (s + 5) = hg c ∧ K2' 14 (s + 5) = s6 + 2 := by
    refine ⟨?_, ?_, ?_⟩
    · rw [kbA.1 12 _ (by decide) (by decide) (by omega), jl_ne (by omega)]
      exact k8c.2.2.2.2.2.1
    · rw [kbA.1 13 _ (by decide) (by decide) (by omega), jl_ne (by omega)]
      exact k8c.2.2.2.2.2.2.1
    · rw [kbA.1 14 _ (by decide) (by decide) (by omega), jl_at (List.mem_singleton.mpr rfl)]
  have kaF : ka F H w nw np (lvl N G) := ka_trans (ka_x (H := F10) (fun d j q => x10 d j (by omega) (by omega) (by omega))) (ka_trans (ka_x (w := w) (nw := nw) (m := np) (H := jl_up F10 21 [w + 1 + 1] (w6' + 2)) (fun d j q => jl_ne (fun z => by have := List.mem_singleton.mp z.2; omega))) kaA (by omega) (Nat.le_refl _) (Nat.le_refl _)) (Nat.le_refl _) (Nat.le_refl _) (Nat.le_refl _)
  have kbF : kb G K2' s ns np (lvl N G) := kb_trans (kb_x (H := K8) (fun d j q => k8G d j (by omega))) (kb_trans (kb_x (w := s) (nw := ns) (m := np) (H := jl_up K8 14 [s + 1 + 1 + 1 + 1 + 1] (s6 + 2)) (fun d j q => jl_ne (fun z => by have := List.mem_singleton.mp z.2; omega))) kbA (by omega) (Nat.le_refl _) (Nat.le_refl _)) (Nat.le_refl _) (Nat.le_refl _) (Nat.le_refl _)
  rw [k862 (N - 1)] at body
  have SG : sgm ls6 cs6 H K2' (G 62 (N - 1)) w (w6' + 4) s (s6 + 3) nw nw6 ns ns6 np np6 (0 :: 0 :: 0 :: c) c [] [] cb := by
    intro H' J nm X wb sb e1 e2 e3 _ _ e6
    rw [jl_nil] at e1 e2
    have rA : ∀ d p, 20 ≤ d → d ≤ 23 → w ≤ p → p < w6' + 4 → H' d p = H d p := e1.1
    have rB : ∀ d p, 12 ≤ d → d ≤ 15 → s ≤ p → p < s6 + 3 → J d p = K2' d p := e2.1
    have hst0 : H' 20 w = 0 := by
      rw [rA 20 w (by decide) (by decide) (by omega) (by omega), rw1 20 w (by decide) (by decide) (by omega), z10 20 w (by decide) (by decide) (by omega)]
      exact y7.1
    have hs : ∀ d p, 12 ≤ d → d ≤ 15 → s ≤ p → p < s + 5 → J d p = K8 d p := fun d p a b z1 z2 => by
      rw [rB d p a b z1 (by omega), rs1 d p a b (by omega)]
    refine sg_loop (l := [(G 62 (N - 1), w + 1, s + 1, (0 :: 0 :: 0 :: c))]) (Or.inl ⟨0, hst0, ?_, rfl⟩) (fun v hv1 => ?_)
    · show J 12 s = 0
      rw [hs 12 s (by decide) (by decide) (by omega) (by omega)]
      exact k8c.1
    rw [List.mem_singleton.mp hv1]
    obtain ⟨B1, B2⟩ := body H' J nm (fun u => X u ∨ u = (G 62 (N - 1), w, s, (0 :: 0 :: 0 :: c))) hst0 (ag_2 e1 (by omega) (Nat.le_refl _) (Nat.le_refl _)) (bg_2 e2 (by omega) (Nat.le_refl _) (Nat.le_refl _)) e3 (sg_x (Or.inr rfl)) (sg_mono (fun u hu => sg_x (Or.inl hu)) e6)
    have h21m : H' 21 (w + 1) = m := by
      rw [rA 21 (w + 1) (by decide) (by decide) (by omega) (by omega), rw1 21 (w + 1) (by decide) (by decide) (by omega), z10 21 (w + 1) (by decide) (by decide) (by omega)]
      exact y7.2.2.1
    have h23m : H' 23 (w + 1) = ln := by
      rw [rA 23 (w + 1) (by decide) (by decide) (by omega) (by omega), rw1 23 (w + 1) (by decide) (by decide) (by omega), z10 23 (w + 1) (by decide) (by decide) (by omega)]
      exact y7.2.2.2
    refine sg_2 (k := 17) (u := (G 62 (N - 1), w + 1 + 1, s + 1 + 4, List.replicate m 0 ++ (0 :: 0 :: 0 :: c))) ⟨?_, ?_, c, rfl, ?_, ?_, ?_, ?_, ?_, ?_, ⟨?_, ?_, ?_, ?_⟩, ?_⟩ ?_
    · show H' 20 (w + 1) = 42
      rw [rA 20 (w + 1) (by decide) (by decide) (by omega) (by omega), rw1 20 (w + 1) (by decide) (by decide) (by omega), z10 20 (w + 1) (by decide) (by decide) (by omega)]
      exact y7.2.1
    · show H' 21 (w + 1) ≤ 50
      omega
    · show J 12 (s + 1) = 5
      rw [hs 12 (s + 1) (by decide) (by decide) (by omega) (by omega)]
      exact k8c.2.1.1
    · show J 13 (s + 1) = hg c
      rw [hs 13 (s + 1) (by decide) (by decide) (by omega) (by omega)]
      exact k8c.2.1.2
    · show J 12 (s + 1 + 1) = 5
      rw [hs 12 (s + 1 + 1) (by decide) (by decide) (by omega) (by omega)]
      exact k8c.2.2.1.1
    · show J 13 (s + 1 + 1) = hg c + 1
      rw [hs 13 (s + 1 + 1) (by decide) (by decide) (by omega) (by omega)]
      exact k8c.2.2.1.2
    · show J 12 (s + 1 + 2) = 5
      rw [hs 12 (s + 1 + 2) (by decide) (by decide) (by omega) (by omega)]
      exact k8c.2.2.2.1.1
    · show J 13 (s + 1 + 2) = hg c + 2
      rw [hs 13 (s + 1 + 2) (by decide) (by decide) (by omega) (by omega)]
      exact k8c.2.2.2.1.2
    · show J 12 (s + 1 + 3) = 19
      rw [hs 12 (s + 1 + 3) (by decide) (by decide) (by omega) (by omega)]
      exact k8c.2.2.2.2.1.1
    · show J 13 (s + 1 + 3) = hg c + 3
      rw [hs 13 (s + 1 + 3) (by decide) (by decide) (by omega) (by omega)]
      exact k8c.2.2.2.2.1.2.1
    · show J 14 (s + 1 + 3) = H' 21 (w + 1)
      rw [hs 14 (s + 1 + 3) (by decide) (by decide) (by omega) (by omega), h21m]
      exact k8c.2.2.2.2.1.2.2.1
    · show J 15 (s + 1 + 3) = H' 23 (w + 1)
      rw [hs 15 (s + 1 + 3) (by decide) (by decide) (by omega) (by omega), h23m]
      exact k8c.2.2.2.2.1.2.2.2
    · show _ = [(G 62 (N - 1), w + 1 + 1, s + 1 + 4, List.replicate (H' 21 (w + 1)) 0 ++ (0 :: 0 :: 0 :: c))]
      rw [h21m]
    refine sg_s (l := [(G 62 (N - 1), w + 1 + 1 + 1, s + 1 + 4 + 1, lcs v0 m ++ (0 :: 0 :: 0 :: c)), (G 62 (N - 1), w6' + 2, s6 + 2, List.replicate m 3 ++ (0 :: 0 :: 0 :: c))]) (Or.inr ⟨18, ?_, ?_, ?_, m, v0, c, hv.2, by omega, ?_, rfl, ?_, hc5, ?_⟩) (fun v hv' => ?_)
    · show H' 20 (w + 1 + 1) = 43
      rw [rA 20 (w + 1 + 1) (by decide) (by decide) (by omega) (by omega)]
      exact wT.1
    · show J 12 (s + 1 + 4) = 34
      rw [rB 12 (s + 1 + 4) (by decide) (by decide) (by omega) (by omega)]
      exact sT.1
    · show w + 1 + 1 < H' 21 (w + 1 + 1)
      rw [rA 21 (w + 1 + 1) (by decide) (by decide) (by omega) (by omega), wT.2.1]
      omega
    · show H' 22 (w + 1 + 1) = m * 100 + v0
      rw [rA 22 (w + 1 + 1) (by decide) (by decide) (by omega) (by omega)]
      exact wT.2.2
    · show J 13 (s + 1 + 4) = hg c
      rw [rB 13 (s + 1 + 4) (by decide) (by decide) (by omega) (by omega)]
      exact sT.2.1
    · show _ = [(G 62 (N - 1), w + 1 + 1 + 1, s + 1 + 4 + 1, lcs v0 m ++ (0 :: 0 :: 0 :: c)), (G 62 (N - 1), H' 21 (w + 1 + 1), J 14 (s + 1 + 4), List.replicate m 3 ++ (0 :: 0 :: 0 :: c))]
      rw [rA 21 (w + 1 + 1) (by decide) (by decide) (by omega) (by omega), wT.2.1, rB 14 (s + 1 + 4) (by decide) (by decide) (by omega) (by omega), show K2' 14 (s + 1 + 4) = s6 + 2 from sT.2.2]
    · rcases List.mem_cons.mp hv' with z | z
      · rw [z]
        exact B1
      · rw [List.mem_singleton.mp z]
        exact B2 _ (fun e he => by rw [List.eq_of_mem_replicate he]; decide)
  have PJ : pj ls6 cs6 (lvl N G) (G 62 (N - 1)) cb F G w s nw ns np (0 :: 0 :: 0 :: c) H K2' (w6' + 4) (s6 + 3) nw6 ns6 np6 c [] [] := ⟨⟨by omega, by omega, by omega, by omega, by omega⟩, kaF, kbF, ⟨fun j hj => absurd hj (List.not_mem_nil), fun j hj => absurd hj (List.not_mem_nil)⟩, SG⟩
  refine Or.inl ⟨i', w6' + 4, s6 + 3, nw6, ns6, np6, ls6, cs6, H, K2', eK, g6, r6', c6', b6'', PJ, ⟨sf6, st_pre_trans p8 sp6, by omega, n6⟩, ⟨o1, fun l hl => (o2 l hl).trans (k862 l), fun l hl => ?_, fun x hx e6 h6 => (o4 x hx e6 h6).trans (k8G e6 x (by omega))⟩, by omega, by omega, by omega, by omega⟩
  rw [o3 l hl, k8 65 l (by decide), k7c l hl]
  exact k6G 65 l (by omega)
end
