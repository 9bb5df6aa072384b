/-! ===== a57: function, a statement (wip/whole2/lawa57.py) ===== -/
section
variable {nn : Nat} {T : Nat → Nat} {n M O : Nat} {G0 : wq_F} {c0 : List (List Nat)} {i t w s nw ns np N : Nat} {off voff ph : Nat → Nat} {cx : Nat → List Nat} {c cb : List Nat} {W : List (Nat × Nat × Nat × Nat)} {L : List (Nat × Nat)} {P Q : List (Nat × Nat × Nat)} {ls cs : List (List Nat)} {F G : wq_F}

variable {i0 w0 s0 nw0 ns0 np0 : Nat} {ls0 cs0 : List (List Nat)} {A B : wq_F} {c' : List Nat}
theorem sx_73 {k d m h e p B : Nat} (hx : sx T n G0 c0 O e p N B G) (hk : 1 ≤ k) (hB : B + 2 < 10000) : wok (dk_131_73 (dk_R nn k) nn G d h m) (fun _ K => sx T n G0 c0 O e p N (B + 2) K) := by
  unfold dk_131_73
  refine wok_b (sx_155 hx hk) fun r K h => ?_
  refine wok_b (sx_143 h (by omega)) fun r K h => ?_
  exact wok_b (sx_132 h (by omega)) fun r K h => wok_r h
theorem sx_131 {k g d h x e p B : Nat} (hx : sx T n G0 c0 O e p N B G) (hk : 1 ≤ k) (hB : B + 2 < 10000) : wok (dk_131_18 (dk_R nn k) nn (g + 1) G d h x) (fun _ K => sx T n G0 c0 O e p N (B + 2) K) := by
  show wok (dk_131_18b (dk_R nn k) nn (dk_131_18 (dk_R nn k) nn g) G d h x) _
  unfold dk_131_18b dk_131_47
  exact wok_i (fun _ => wok_f (sx_ne hx (by decide)) (wok_t rfl (sx_73 hx hk hB))) (fun _ => wok_f (sx_ne hx (by decide)) (wok_f (sx_ne hx (by decide)) (wok_t rfl (sx_73 hx hk hB))))
/-- the body, and the store -/
theorem fn_end {D k mth : Nat} (hM : tk_M T n M) (h : eg T n M G0 c0 O N off voff ph cx cb A B i0 ls0 cs0 w0 s0 nw0 ns0 np0 (1 :: c) t W L P Q F G i ls cs w s nw ns np c') (ht : tlr cb N A B w0 s0 nw0 ns0 np0 (1 :: c) F G ls cs w s nw ns np c') (h3 : F 0 61 ≤ 3) (h62 : ∀ l, l < N → B 62 l < np0) (hn : 10000 < nn) (hc0 : c0.length ≤ 1400) (hO : O ≤ 20000) (hD : D ≤ 20) (hBf : B_ok nn T n M G0 c0 O D) (hkf : 20 * (22 - D) + 13 ≤ k) (htD : t = D) (hB : bnd i w s nw ns np t (hg c + 2) W L P Q N) (hW : W.length ≤ 20 * t) (hNt : N ≤ t) (hm : mth < 2) : wok (dk_131_73 (dk_R nn k) nn G D (hg c) mth) (fun _ K => (∃ i' w' s' nw' ns' np' ls' cs' H, rgo nn F (dk_232_177 nn F mth) H ∧ eg T n M G0 c0 O N off voff ph cx cb A B i0 ls0 cs0 w0 s0 nw0 ns0 np0 (1 :: c) t W L P Q H K i' ls' cs' w' s' nw' ns' np' c ∧ (i < i' ∧ w' + 6 * i ≤ w + 6 * i' + 2 ∧ s' + 4 * i ≤ s + 4 * i' + 2 ∧ nw' + i ≤ nw + i' ∧ ns' + i ≤ ns + i')) ∨ ∃ e p, rba nn F (dk_232_177 nn F mth) e p ∧ sx T n G0 c0 O e p N (zz D + 60) K) := by
  have hz : 6200 ≤ zz D ∧ zz D < 9800 := by unfold zz; omega
  obtain ⟨m1, m2, m3, m4, m5, m6, m7, m8, m9, m10, m11, m12⟩ := hB
  have hM1 := hM.1
  have hiM := h.1.1.2.2.1
  have hN := h.2.2.1.1.1
  have hhc := tlr_hg ht
  rw [hg_1] at hhc
  have e1 := e_la (cb := cb) (x1 := 41) (x2 := F 0 61) (x3 := F 0 62) (x4 := F 0 63) h.1 h.2.1 h.2.2.1 m5
  have e2 := e_la (cb := cb) (x1 := 19) (x2 := mth) (x3 := 0) (x4 := 0) e1.1 e1.2.1 e1.2.2.1 m5
  have hq62 := h.2.2.1.2.2.2.2.2.1
  have E2 := eg_t e1 e2 hq62
  have hd : dk_232_177 nn F mth = some (1, pm_la (pm_la F 41 (F 0 61) (F 0 62) (F 0 63)) 19 mth 0 0) := by
    unfold dk_232_177
    rw [dkS_31 (by rw [h.1.2.2.1.1]; omega), od_bS]
    dsimp only
    rw [dkS_31 (by rw [e1.1.2.2.1.1]; show W.length + 1 < 4000; omega), od_bS]
  generalize dk_232_177 nn F mth = mm at *
  have ff2 : rm_fr F (pm_la (pm_la F 41 (F 0 61) (F 0 62) (F 0 63)) 19 mth 0 0) := rm_fr_la (rm_fr_la (rm_fr_refl _))
  generalize pm_la (pm_la F 41 (F 0 61) (F 0 62) (F 0 63)) 19 mth 0 0 = F2 at *
  have g2 : rgo nn F mm F2 := rgo_i hd (by decide) E2.1.1.1 ff2
  unfold dk_131_73
  refine wok_b (hBf k mth i t w s nw ns np N off voff ph cx c' cb ((41, F 0 61, F 0 62, F 0 63) :: W) L P Q ls cs F2 G hkf htD hm E2.1 E2.2.1 E2.2.2.1 ⟨by omega, by omega, by omega, by omega, m5, m6, by omega, by show W.length + 1 ≤ _; omega, m9, m10, m11, m12⟩ (by show W.length + 1 ≤ _; omega) hNt) fun r K3 h3' => ?_
  dsimp only
  rcases h3' with ⟨i3, w3, s3, nw3, ns3, np3, ls3, cs3, H3, g3, E3, ⟨u1, u2, u3, u4, u5⟩, _⟩ | ⟨e, p, ho, hx⟩
  rotate_left
  · refine wok_b (sx_143 hx (by omega)) fun r K h => ?_
    exact wok_b (sx_132 h (by omega)) fun r K h => wok_r (Or.inr ⟨e, p, rgo_o g2 ho, sx_le h (by omega)⟩)
  have i3M := E3.1.1.2.2.1
  have n3 : np3 ≤ 50 := E3.2.2.2.2.2.2
  have g3' := rgo_t g2 g3
  have hgo := fun H => ry_go (nn := nn) (H := H) E3.1 (by show W.length < 4000; omega)
  have ep := e_pop (cb := cb) E3.1 E3.2.1 E3.2.2.1 n3
  have fp : rm_fr H3 (wq_up H3 0 46 W.length) := rm_fr_up (rm_fr_refl _) (by decide) (by decide)
  have h33 : dk_32 nn (wq_up H3 0 46 W.length) (41, F 0 61, F 0 62, F 0 63).1 (41, F 0 61, F 0 62, F 0 63).2.1 (41, F 0 61, F 0 62, F 0 63).2.2.1 (41, F 0 61, F 0 62, F 0 63).2.2.2 = dk_272 (wq_up H3 0 46 W.length) (F 0 61) (F 0 62) (F 0 63) := by
    show dk_32 nn (wq_up H3 0 46 W.length) 41 (F 0 61) (F 0 62) (F 0 63) = _
    rw [dk32_41b]
  have h23 := hq62
  have E23 := eg_t E2 E3 hq62
  have hq3 := E3.2.2.1.2.2.2.2.2.1
  have H15 : F 15 (G 62 (N - 1)) ≤ wq_up H3 0 46 W.length 15 (G 62 (N - 1)) := by
    have z := (E23.2.2.2.1.2.1.2.2.2 (G 62 (N - 1)) (hq62 (N - 1) (by omega))).1
    rw [wq_up_cell (by decide)]
    exact z
  have k62 : K3 62 (N - 1) = G 62 (N - 1) := (E23.2.2.2.2.1.2.2.1 (N - 1) (by omega)).1
  have B62 : B 62 (N - 1) = G 62 (N - 1) := (h.2.2.2.2.1.2.2.1 (N - 1) (by omega)).1.symm
  generalize dk_32 nn (wq_up H3 0 46 W.length) (41, F 0 61, F 0 62, F 0 63).1 (41, F 0 61, F 0 62, F 0 63).2.1 (41, F 0 61, F 0 62, F 0 63).2.2.1 (41, F 0 61, F 0 62, F 0 63).2.2.2 = m3 at *
  generalize wq_up H3 0 46 W.length = Hp at *
  have wp : Hp 0 41 = w3 := ep.1.2.1.2.1
  have E2p := eg_t E23 ep hq62
  unfold dk_272 at h33
  -- a name
  have name : ∀ y x, y < 3 → F 0 61 = y → G 56 7 = x → x < 10 → c' = 1 :: c → (∀ (H J : wq_F) (nm : Nat → Nat → Prop), H 20 w3 = 9 + y → H 21 w3 = F 0 62 → J 12 s3 = x + 1 → J 13 s3 = G 56 8 → F 15 (G 62 (N - 1)) ≤ H 15 (G 62 (N - 1)) → nmr ls3 cs3 nm → ∃ k, cs1 H J nm k (G 62 (N - 1)) w3 s3 (0 :: 1 :: c) [(G 62 (N - 1), w3 + 1, s3 + 1, 1 :: c)]) → wok ((dk_143 K3 (G 56 7) (G 56 8) (G 56 9)).bind fun y5 => (dk_132 y5.2 (hg c)).bind fun y9 => some (0, y9.2)) (fun _ K => (∃ i' w' s' nw' ns' np' ls' cs' H, rgo nn F (mm) H ∧ eg T n M G0 c0 O N off voff ph cx cb A B i0 ls0 cs0 w0 s0 nw0 ns0 np0 (1 :: c) t W L P Q H K i' ls' cs' w' s' nw' ns' np' c ∧ (i < i' ∧ w' + 6 * i ≤ w + 6 * i' + 2 ∧ s' + 4 * i ≤ s + 4 * i' + 2 ∧ nw' + i ≤ nw + i' ∧ ns' + i ≤ ns + i')) ∨ ∃ e p, rba nn F (mm) e p ∧ sx T n G0 c0 O e p N (zz D + 60) K) := fun y x hy z1 z2 hx z3 hf => by
    subst z3
    rw [z1, if_neg (by omega), Nat.mod_eq_of_lt (show 9 + y < 4294967296 by omega), dkS_30 (by omega), od_bS] at h33
    dsimp only at h33
    unfold dk_143
    rw [z2, if_neg (by omega), Nat.mod_eq_of_lt (show x + 1 < 4294967296 by omega)]
    refine wok_b (A := fun _ K => eg T n M G0 c0 O N off voff ph cx cb Hp K3 i3 ls3 cs3 w3 s3 nw3 ns3 np3 (0 :: 1 :: c) t W L P Q (pm_em Hp (9 + y) (F 0 62) 0 0) K i3 ls3 cs3 (w3 + 1) (s3 + 1) nw3 ns3 np3 (1 :: c)) (wok_b (e_112f (cb := cb) (o := 9 + y) (a := F 0 62) (b := 0) (l := 0) (d := 1 :: c) ep.1 ep.2.1 ep.2.2.1 n3 (by omega) (by rw [hg_0, hg_1]; omega) (fun k _ _ z => cx_at_dn (a := [0]) (fun e he => by rw [List.mem_singleton.mp he]; decide) z) (bz_cd (a := [0]) ep.2.2.1 rfl) (fun H J nm h1 h2 h3 hnm => Or.inl ?_)) fun r K h => wok_r h.1) fun r K4 E4 => ?_
    · rw [k62] at h3 ⊢
      exact hf H J nm h1.1 h1.2.1 h2.1 h2.2.1 (Nat.le_trans H15 h3) hnm
    dsimp only
    have k64 : K4 64 (N - 1) = hg c := by
      rw [bz_hc E4.2.2.1, hg_1]
    have h114 := E4.2.1.2.1.1
    obtain ⟨l1, l2, _, _⟩ := cy_lv E4.2.1 E4.2.2.1
    rw [dkS_132 l1 l2 (by omega), if_pos k64, od_bS]
    refine wok_r ?_
    dsimp only
    have e5 := e_drop (cb := cb) (a := 0) (b := 0) (l := 0) E4.1 E4.2.1 E4.2.2.1 rfl n3
    have w4 := E4.1.2.1.2.1
    rw [dkS_30 (by omega), od_bS] at h33
    have f5 : rm_fr H3 (pm_em (pm_em Hp (9 + y) (F 0 62) 0 0) 47 0 0 0) := rm_fr_em (rm_fr_em fp)
    have g5 := hgo _ (rgo_i h33 (by decide) e5.1.1.1 f5)
    refine Or.inl ⟨i3, w3 + 1 + 1, s3 + 1, nw3, ns3, np3, ls3, cs3, _, rgo_t g3' g5, eg_t h (eg_t E2p (eg_t E4 e5 ep.2.2.1.2.2.2.2.2.1) hq62) h62, by omega, by omega, by omega, by omega, by omega⟩
  rcases ht with ⟨t1, t2, t3, t4⟩ | ⟨t1, t2, t3, t4, t5⟩ | ⟨t1, t2, t3, t4, t5, t6⟩ | ⟨t1, t2, t3, t4, t5⟩ | ⟨t1, _⟩ | ⟨t1, _⟩
  · exact name 0 5 (by decide) t1 t2 (by decide) t3 (fun H J nm e1 e2 e3 e4 e5 hnm => ⟨8, e1, e3, 1 :: c, rfl, by rw [e4, e2]; exact t4, rfl⟩)
  · exact name 1 7 (by decide) t1 t2 (by decide) t3 (fun H J nm e1 e2 e3 e4 e5 hnm => ⟨9, e1, e3, by rw [e4, e2]; exact t4, by rw [e2]; rw [B62] at t5; omega, 1 :: c, rfl, rfl⟩)
  · exact name 2 9 (by decide) t1 t2 (by decide) t3 (fun H J nm e1 e2 e3 e4 e5 hnm => ⟨10, e1, e3, by
      rw [e4, e2]
      have p1 := E23.2.2.2.2.1.1.1
      have p2 := E23.2.2.2.2.1.2.1
      exact hnm _ _ (Nat.lt_of_lt_of_le t4 p1.1) (Nat.lt_of_lt_of_le t5 p2.1) (by rw [p1.2 _ t4, p2.2 _ t5]; exact t6), 1 :: c, rfl, rfl⟩)
  · subst t3
    rw [t1, if_pos rfl, dkS_30 (by omega), od_bS] at h33
    dsimp only at h33
    unfold dk_143
    rw [t2, if_pos rfl]
    have hx4 : G 56 8 = hg c := t4.trans hg_1
    refine wok_b (A := fun _ K => eg T n M G0 c0 O N off voff ph cx cb Hp K3 i3 ls3 cs3 w3 s3 nw3 ns3 np3 (0 :: 0 :: 0 :: 1 :: c) t W L P Q (pm_em Hp 13 0 0 (F 0 63)) K i3 ls3 cs3 (w3 + 1) (s3 + 1) nw3 ns3 np3 (0 :: 0 :: 1 :: c)) (wok_b (e_112 (cb := cb) (o := 13) (a := 0) (b := 0) (l := F 0 63) (d := 0 :: 0 :: 1 :: c) ep.1 ep.2.1 ep.2.2.1 n3 (by omega) (by simp only [hg_0, hg_1]; omega) (fun k _ _ z => cx_at_dn (a := [0]) (fun e he => by rw [List.mem_singleton.mp he]; decide) z) (bz_cd (a := [0]) ep.2.2.1 rfl) (fun H J nm h1 h2 _ => Or.inl ⟨12, h1.1, h2.1, by rw [h1.2.2.2, h2.2.2.2]; exact t5, [0, 0], c, rfl, fun e he => by rcases List.mem_cons.mp he with z | z; exact z; exact List.mem_singleton.mp z, by rw [h1.2.1]; decide, by rw [h2.2.1, h1.2.1]; exact hx4, rfl⟩)) fun r K h => wok_r h.1) fun r K4 E4 => ?_
    dsimp only
    have k64 : K4 64 (N - 1) = hg c + 2 := by
      rw [bz_hc E4.2.2.1, hg_0, hg_0, hg_1]
    obtain ⟨l1, l2, _, _⟩ := cy_lv E4.2.1 E4.2.2.1
    have w4 := E4.1.2.1.2.1
    rw [dkS_30 (by omega), od_bS] at h33
    unfold dk_132
    rw [dkS_84 l1 l2, od_bS]
    dsimp only
    rw [if_neg (by omega)]
    refine wok_b (A := fun _ K => eg T n M G0 c0 O N off voff ph cx cb (pm_em Hp 13 0 0 (F 0 63)) K4 i3 ls3 cs3 (w3 + 1) (s3 + 1) nw3 ns3 np3 (0 :: 0 :: 1 :: c) t W L P Q (pm_em (pm_em Hp 13 0 0 (F 0 63)) 47 0 0 0) K i3 ls3 cs3 (w3 + 1 + 1) (s3 + 1 + 1) nw3 ns3 np3 c) (wok_b (e_113 (cb := cb) (o := 47) (a := 0) (b := 0) (l := 0) (d := c) E4.1 E4.2.1 E4.2.2.1 n3 (by omega) rfl (fun k _ _ z => cx_at_dn (a := [0, 0, 1]) (fun e he => by rcases List.mem_cons.mp he with z | z; omega; rcases List.mem_cons.mp z with z | z; omega; have := List.mem_singleton.mp z; omega) z) (bz_cd (a := [0, 0, 1]) E4.2.2.1 rfl) (fun H J nm h1 h2 _ => Or.inr ⟨19, h1.1, h2.1, [0, 0], c, rfl, fun e he => by rcases List.mem_cons.mp he with z | z; exact z; exact List.mem_singleton.mp z, h2.2.1, rfl⟩)) fun r K h => wok_r h.1) fun r K5 E5 => ?_
    refine wok_r ?_
    dsimp only
    have f5 : rm_fr H3 (pm_em (pm_em Hp 13 0 0 (F 0 63)) 47 0 0 0) := rm_fr_em (rm_fr_em fp)
    have g5 := hgo _ (rgo_i h33 (by decide) E5.1.1.1 f5)
    refine Or.inl ⟨i3, w3 + 1 + 1, s3 + 1 + 1, nw3, ns3, np3, ls3, cs3, _, rgo_t g3' g5, eg_t h (eg_t E2p (eg_t E4 E5 ep.2.2.1.2.2.2.2.2.1) hq62) h62, by omega, by omega, by omega, by omega, by omega⟩
  · omega
  · omega
/-- all of the name, the body, the store -/
theorem fn_loop {D k : Nat} (hM : tk_M T n M) (h62 : ∀ l, l < N → B 62 l < np0) (hn : 10000 < nn) (hc0 : c0.length ≤ 1400) (hO : O ≤ 20000) (hD : D ≤ 20) (hBf : B_ok nn T n M G0 c0 O D) (hkf : 20 * (22 - D) + 13 ≤ k) (htD : t = D) (hB0 : t ≤ 20 ∧ hg c + 2 ≤ 2 * i0 + 40 ∧ W.length ≤ 20 * t ∧ (L.length ≤ t ∧ ∀ e ∈ L, e.2 < N) ∧ P.length ≤ 20 * t ∧ Q.length ≤ 20 * t ∧ N ≤ t + 1) (hNt : N ≤ t) : ∀ (g g' v i w s nw ns np : Nat) (ls cs : List (List Nat)) (c' : List Nat) (F G : wq_F), 1510 < g + v → 1510 < g' + v → v ≤ i → i0 ≤ i → eg T n M G0 c0 O N off voff ph cx cb A B i0 ls0 cs0 w0 s0 nw0 ns0 np0 (1 :: c) t W L P Q F G i ls cs w s nw ns np c' → tlr cb N A B w0 s0 nw0 ns0 np0 (1 :: c) F G ls cs w s nw ns np c' → F 0 61 ≤ 3 → w ≤ 6 * i + 34 ∧ s ≤ 4 * i + 34 ∧ nw ≤ i ∧ ns ≤ i ∧ np ≤ 50 →
    wok (dk_131_18 (dk_R nn k) nn g G D (hg c) v) (fun _ K => (∃ i' w' s' nw' ns' np' ls' cs' H, rgo nn F (dk_232_64 nn g' F 0) H ∧ eg T n M G0 c0 O N off voff ph cx cb A B i0 ls0 cs0 w0 s0 nw0 ns0 np0 (1 :: c) t W L P Q H K i' ls' cs' w' s' nw' ns' np' c ∧ (i < i' ∧ w' + 6 * i ≤ w + 6 * i' + 2 ∧ s' + 4 * i ≤ s + 4 * i' + 2 ∧ nw' + i ≤ nw + i' ∧ ns' + i ≤ ns + i')) ∨ ∃ e p, rba nn F (dk_232_64 nn g' F 0) e p ∧ sx T n G0 c0 O e p N (zz D + 60) K) := by
  have hz : 6200 ≤ zz D ∧ zz D < 9800 := by unfold zz; omega
  have hM1 := hM.1
  obtain ⟨q1, q2, q3, q4, q5, q6, q7⟩ := hB0
  intro g
  induction g with
  | zero =>
    intro g' v i w s nw ns np ls cs c' F G x1 _ x2 _ h
    have := h.1.1.2.2.1
    omega
  | succ g ih =>
    intro g' v i w s nw ns np ls cs c' F G x1 x1' x2 x3 h ht h3 rt
    have rt0 := rt
    obtain ⟨u1, u2, u3, u4, u5⟩ := rt
    have hiM := h.1.1.2.2.1
    have h57 : G 57 4 = tk_ty T n (tk_pos T n i) := h.2.1.1.2.1.1
    obtain ⟨g', rfl⟩ : ∃ a, g' = a + 2 := ⟨g' - 2, by omega⟩
    obtain ⟨g, rfl⟩ : ∃ a, g = a + 1 := ⟨g - 1, by omega⟩
    have s60 := tk_ty_sign (T := T) (n := n) (p := tk_pos T n i) (c := 46) (by decide)
    have s58 := tk_ty_sign (T := T) (n := n) (p := tk_pos T n i) (c := 58) (by decide)
    show wok (dk_131_18b (dk_R nn k) nn (dk_131_18 (dk_R nn k) nn (g + 1)) G D (hg c) v) _
    unfold dk_131_18b
    refine wok_f (fun z => absurd ((wd_slt (by decide) (by omega)).mp z) (by omega)) ?_
    by_cases k1 : tk_k T n i = 5 ∧ tk_V T n (tk_pos T n i) = 46
    · have n58 : ¬ (tk_k T n i = 5 ∧ tk_V T n (tk_pos T n i) = 58) := fun z => by
        have := z.2
        have := k1.2
        omega
      have hd : dk_232_64 nn (g' + 2) F 0 = dk_232_100 nn (dk_232_64 nn (g' + 1)) F 0 := by
        show dk_232_64b nn (dk_232_64 nn (g' + 1)) F 0 = _
        unfold dk_232_64b dk_232_82
        rw [pm_isSign hM h.1.1 (by decide), od_bS, if_pos k1]
        dsimp only
        rw [if_neg (by decide), if_pos rfl, pm_isSign hM h.1.1 (by decide), od_bS, if_neg n58]
        dsimp only
        rw [if_pos rfl]
      generalize dk_232_64 nn (g' + 2) F 0 = mm at *
      refine wok_t (h57.trans (s60.mpr k1)) ?_
      refine wok_b (fn_dot (m := 0) (r64 := dk_232_64 nn (g' + 1)) hM h ht h62 hn hc0 hO ⟨by omega, by omega, by omega, by omega, u5, q1, by rw [hg_1]; omega, by omega, q4, q5, q6, q7⟩ k1.1) fun r K hK => ?_
      refine wok_l ?_
      dsimp only
      rw [Nat.mod_eq_of_lt (show v + 1 < 4294967296 by omega)]
      rcases hK with ⟨ms, w', s', H, e1, f1, E1, t1, h31, y1, y2, y3, y4⟩ | ⟨e, p, X, e1, f1, w1, hx⟩
      · have hi1 := E1.1.1.2.2.1
        refine wok_m (ih (g' + 1) (v + 1) (i + 1 + 1) w' s' nw ns np ls ms (0 :: 0 :: 1 :: c) H K (by omega) (by omega) (by omega) (by omega) E1 t1 (by omega) ⟨by omega, by omega, by omega, by omega, u5⟩) fun r K h => ?_
        rw [hd, e1]
        rcases h with ⟨i2, w2, s2, nw2, ns2, np2, ls2, cs2, H2, g2, E2, z1, z2, z3, z4, z5⟩ | ⟨e, p, ho, hx⟩
        · exact Or.inl ⟨i2, w2, s2, nw2, ns2, np2, ls2, cs2, H2, rgo_fr g2 f1, E2, by omega, by omega, by omega, by omega, by omega⟩
        · exact Or.inr ⟨e, p, rba_fr ho f1, hx⟩
      · exact wok_m (sx_131 hx (by omega) (by decide)) fun r K h => Or.inr ⟨e, p, rba_f (hd.trans e1) f1 w1, sx_le h (by omega)⟩
    refine wok_f (fun z => k1 (s60.mp (h57.symm.trans z))) ?_
    unfold dk_131_47
    by_cases k2 : tk_k T n i = 5 ∧ tk_V T n (tk_pos T n i) = 58
    · have hd : dk_232_64 nn (g' + 2) F 0 = dk_232_100 nn (dk_232_64 nn (g' + 1)) F 1 := by
        show dk_232_64b nn (dk_232_64 nn (g' + 1)) F 0 = _
        unfold dk_232_64b dk_232_82
        rw [pm_isSign hM h.1.1 (by decide), od_bS, if_neg k1]
        dsimp only
        rw [if_pos rfl, pm_isSign hM h.1.1 (by decide), od_bS, if_pos k2]
        dsimp only
        rw [if_neg (by decide), if_pos rfl, pm_isSign hM h.1.1 (by decide), od_bS, if_pos k2]
        dsimp only
        rw [if_neg (by decide)]
      have h1 : ∀ H i' ls' w' nw' np', ry T n M i' ls' t w' nw' np' W L P H → dk_232_64 nn (g' + 1) H 1 = dk_232_177 nn H 1 := fun H i' ls' w' nw' np' hr => by
        show dk_232_64b nn (dk_232_64 nn g') H 1 = _
        unfold dk_232_64b dk_232_82
        rw [pm_isSign hM hr.1 (by decide), od_bS]
        dsimp only
        rw [if_ck]
        by_cases z1 : tk_k T n i' = 5 ∧ tk_V T n (tk_pos T n i') = 46
        · rw [if_pos z1, if_neg (show ¬ (1 : Nat) = 0 by decide)]
        · rw [if_neg z1, pm_isSign hM hr.1 (by decide), od_bS]
          dsimp only
          rw [if_ck]
          by_cases z2 : tk_k T n i' = 5 ∧ tk_V T n (tk_pos T n i') = 58
          · rw [if_pos z2, if_neg (show ¬ (1 : Nat) = 0 by decide)]
          · rw [if_neg z2]
      generalize dk_232_64 nn (g' + 2) F 0 = mm at *
      refine wok_t (h57.trans (s58.mpr k2)) (wok_f (by decide) ?_)
      refine wok_b (fn_dot (m := 1) (r64 := dk_232_64 nn (g' + 1)) hM h ht h62 hn hc0 hO ⟨by omega, by omega, by omega, by omega, u5, q1, by rw [hg_1]; omega, by omega, q4, q5, q6, q7⟩ k2.1) fun r K hK => ?_
      dsimp only
      rcases hK with ⟨ms, w', s', H, e1, f1, E1, t1, h31, y1, y2, y3, y4⟩ | ⟨e, p, X, e1, f1, w1, hx⟩
      · have hi1 := E1.1.1.2.2.1
        have e2 := hd.trans (e1.trans (h1 H _ _ _ _ _ E1.1))
        refine wok_m (fn_end (mth := 1) hM E1 t1 (by omega) h62 hn hc0 hO hD hBf hkf htD ⟨by omega, by omega, by omega, by omega, u5, q1, by omega, by omega, q4, q5, q6, q7⟩ q3 hNt (by decide)) fun r K h => ?_
        rw [e2]
        rcases h with ⟨i2, w2, s2, nw2, ns2, np2, ls2, cs2, H2, g2, E2, z1, z2, z3, z4, z5⟩ | ⟨e, p, ho, hx⟩
        · exact Or.inl ⟨i2, w2, s2, nw2, ns2, np2, ls2, cs2, H2, rgo_fr g2 f1, E2, by omega, by omega, by omega, by omega, by omega⟩
        · exact Or.inr ⟨e, p, rba_fr ho f1, hx⟩
      · exact wok_m (sx_73 hx (by omega) (by decide)) fun r K h => Or.inr ⟨e, p, rba_f (hd.trans e1) f1 w1, sx_le h (by omega)⟩
    · have hd : dk_232_64 nn (g' + 2) F 0 = dk_232_177 nn F 0 := by
        show dk_232_64b nn (dk_232_64 nn (g' + 1)) F 0 = _
        unfold dk_232_64b
        rw [pm_isSign hM h.1.1 (by decide), od_bS, if_neg k1]
        dsimp only
        rw [if_pos rfl, pm_isSign hM h.1.1 (by decide), od_bS, if_neg k2]
        dsimp only
        rw [if_pos rfl]
      rw [hd]
      refine wok_f (fun z => k2 (s58.mp (h57.symm.trans z))) (wok_t rfl ?_)
      exact fn_end (mth := 0) hM h ht h3 h62 hn hc0 hO hD hBf hkf htD ⟨by omega, by omega, by omega, by omega, u5, q1, by omega, by omega, q4, q5, q6, q7⟩ q3 hNt (by decide)
end
