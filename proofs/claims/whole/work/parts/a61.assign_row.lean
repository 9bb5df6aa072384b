/-! ===== a61: an assignment (wip/whole2/lawa61.py) ===== -/
section
variable {nn : Nat} {T : Nat → Nat} {n M O : Nat} {G0 : wq_F} {c0 : List (List Nat)} {i t w s nw ns np N : Nat} {off voff ph : Nat → Nat} {cx : Nat → List Nat} {c cb : List Nat} {W : List (Nat × Nat × Nat × Nat)} {L : List (Nat × Nat)} {P Q : List (Nat × Nat × Nat)} {ls cs : List (List Nat)} {F G : wq_F}

variable {i0 w0 s0 nw0 ns0 np0 : Nat} {ls0 cs0 : List (List Nat)} {A B : wq_F}
/-- behind the sign =, all places noted -/
theorem as_row {D k : Nat} (PB QB : List (Nat × Nat × Nat)) (hM : tk_M T n M) (hn : 10000 < nn) (hc0 : c0.length ≤ 1400) (hO : O ≤ 20000) (hn2 : 14000 < nn) (hD : D ≤ 20) (hE : E_ok nn T n M G0 c0 O (D + 1)) (hkf : 20 * (22 - D) + 11 ≤ k) (htD : t = D) (h62 : ∀ l, l < N → B 62 l < np0) (hb0 : W.length ≤ 20 * t ∧ (L.length ≤ t ∧ ∀ e ∈ L, e.2 < N) ∧ P.length + 20 ≤ 20 * t ∧ Q.length + 20 ≤ 20 * t ∧ N ≤ t + 1 ∧ t ≤ 20) (hr0 : w0 ≤ 6 * i0 + 41 ∧ s0 ≤ 4 * i0 + 41 ∧ nw0 ≤ i0 ∧ ns0 ≤ i0 ∧ hg c ≤ 2 * i0 + 40) {mm : Option (Nat × wq_F)} {FA : wq_F} (hPB : 1 ≤ PB.length ∧ PB.length ≤ 20) (h : eg T n M G0 c0 O N off voff ph cx cb A B i0 ls0 cs0 w0 s0 nw0 ns0 np0 (1 :: c) t W L (PB ++ P) (QB ++ Q) F G i ls cs w s nw ns np (List.replicate (2 * nx PB) 0 ++ 1 :: c)) (hp : plr (F 15 (G 62 (N - 1))) (1 :: c) ls cs PB QB) (rt : i0 + 2 * PB.length ≤ i + 1 ∧ i0 < i ∧ w + PB.length + 3 + 6 * i0 ≤ w0 + 6 * i ∧ s + PB.length + 1 + 4 * i0 ≤ s0 + 4 * i ∧ nw + i0 ≤ nw0 + i ∧ ns + i0 ≤ ns0 + i) (hk : tk_k T n i = 5 ∧ tk_V T n (tk_pos T n i) = 61) (hfA : rm_fr FA F)
    (hd : mm = (dk_212 F).bind fun y45 => if y45.1 = 0 then some (0, y45.2) else (dk_217 y45.2).bind fun y50 => if y50.1 = 0 then (dk_211 y50.2).bind fun y71 => some (y71.1, y71.2) else (dk_30 y50.2 14 0 0 0).bind fun y55 => (dk_31 y55.2 22 P.length (1 + lc T (tk_pos T n i)) 0).bind fun y59 => (dk_31 y59.2 14 0 0 0).bind fun y63 => (dk_31 y63.2 3 0 0 0).bind fun y67 => some (1, y67.2)) : wok (dk_141_96 (dk_R nn k) nn G D (hg c) (3 * Q.length)) (fun _ K => (∃ i' w' s' nw' ns' np' ls' cs' H, rgo nn FA mm H ∧ eg T n M G0 c0 O N off voff ph cx cb A B i0 ls0 cs0 w0 s0 nw0 ns0 np0 (1 :: c) t W L P Q H K i' ls' cs' w' s' nw' ns' np' c ∧ (i0 < i' ∧ w' + 3 + 6 * i0 ≤ w0 + 6 * i' ∧ s' + 2 + 4 * i0 ≤ s0 + 4 * i' ∧ nw' + i0 ≤ nw0 + i' ∧ ns' + i0 ≤ ns0 + i')) ∨ ∃ e p, rba nn FA mm e p ∧ sx T n G0 c0 O e p N (zz D + 90) K) := by
  have hz : 6310 ≤ zz D ∧ zz D < 9800 ∧ zz (D + 1) + 110 = zz D := by unfold zz; omega
  have hM1 := hM.1
  have hiM := h.1.1.2.2.1
  have hnp := h.2.2.2.2.2.2
  have hN := h.2.2.1.1.1.1
  obtain ⟨q1, q2, q3, q4, q5, q6⟩ := hb0
  obtain ⟨r1, r2, r3, r4, r5⟩ := hr0
  obtain ⟨u0, u1, u2, u3, u4, u5⟩ := rt
  have nl := nx_le (PA := PB)
  have hlen := plr_len hp
  have hhc : hg (List.replicate (2 * nx PB) 0 ++ 1 :: c) = 2 * nx PB + hg c := by rw [hg_app, hg_rep, hg_1]
  have hPl : (PB ++ P).length = PB.length + P.length := List.length_append
  have hQl : (QB ++ Q).length = QB.length + Q.length := List.length_append
  have h11 : G 56 11 = 3 * (Q.length + QB.length) := by
    rw [h.2.1.2.2.1.1, hQl, Nat.add_comm]
  have h57 : G 57 4 = tk_ty T n (tk_pos T n i) := h.2.1.1.2.1.1
  have hln : G 57 6 = 1 + lc T (tk_pos T n i) := h.2.1.1.2.1.2.2.1
  have hlc : lc T (tk_pos T n i) ≤ 6000 := Nat.le_trans (lc_le T _) (Nat.le_trans (tk_pos_le hM i hiM) hM.2.2.2.1)
  have hq62 := h.2.2.1.2.2.2.2.2.1
  have t49 : tk_ty T n (tk_pos T n i) = 49 := (tk_ty_sign (c := 61) (by decide)).mpr hk
  have tail3 : ∀ {e p B : Nat} {r : Nat} {K : wq_F}, sx T n G0 c0 O e p N B K ∧ K 56 11 = 3 * (Q.length + QB.length) → B + 30 ≤ zz D + 90 → wok ((dk_129 K r (hg (List.replicate (2 * nx PB) 0 ++ 1 :: c)) QB.length (1 + lc T (tk_pos T n i))).bind fun y16 => od_let (((y16.2 56 11) + (4294967296 - 3)) % 4294967296) fun y20 => dk_141_155 (dk_R nn k) nn nn y16.2 (hg c) (3 * Q.length) y20) (fun _ K => sx T n G0 c0 O e p N (zz D + 90) K) := fun {e p B r K} hx hB => by
    refine wok_b (wok_pe (sx_129 hx.1 (by omega) (by omega)) (pe_129 hx.2)) fun r K h => ?_
    refine wok_l ?_
    show wok (dk_141_155 (dk_R nn k) nn nn K _ (3 * Q.length) ((K 56 11 + (4294967296 - 3)) % 4294967296)) _
    rw [h.2, show (3 * (Q.length + QB.length) + (4294967296 - 3)) % 4294967296 = (3 * Q.length + 3 * QB.length + 4294967293) % 4294967296 by omega]
    exact wok_m (sx_155s (by omega) QB.length nn _ K h.1 (by omega) (by omega) (by omega)) fun r K h => sx_le h (by omega)
  unfold dk_141_96
  rw [h11, hln, show (3 * (Q.length + QB.length) + (4294967296 - 3 * Q.length)) % 4294967296 = 3 * QB.length by omega]
  refine wok_l ?_
  rw [cy_84 h.2.1 h.2.2.1, od_bS]
  dsimp only
  rw [dv_3 QB.length (by omega), Nat.mod_eq_of_lt (show D + 1 < 4294967296 by omega)]
  -- the sign
  have w110 : wok (dk_110 nn G 49) (fun _ K => ((∃ ms, i < M ∧ dk_212 F = some (1, wq_up F 0 25 (i + 1)) ∧ (eg T n M G0 c0 O N off voff ph cx cb F G i ls cs w s nw ns np (List.replicate (2 * nx PB) 0 ++ 1 :: c) t W L (PB ++ P) (QB ++ Q) (wq_up F 0 25 (i + 1)) K (i + 1) ls ms w s nw ns np (List.replicate (2 * nx PB) 0 ++ 1 :: c)) ∧ px_fr G K) ∨ (dk_212 F = some (0, pm_f F 3 (tk_pos T n i)) ∧ sx T n G0 c0 O 3 (tk_pos T n i) N 6210 K)) ∧ K 56 11 = 3 * (Q.length + QB.length)) := by
    refine wok_pe ?_ (pe_110 h11)
    unfold dk_110
    exact wok_t (h57.trans t49) (wok_b (e_77 (cb := cb) (B := 6210) hM h.1 h.2.1 h.2.2.1 (by omega) (by omega) hn hc0 hO (by omega) (by omega) hnp (by omega)) fun r K h => wok_r h)
  refine wok_b w110 fun r K5 h5 => ?_
  dsimp only
  obtain ⟨h5, k511⟩ := h5
  rcases h5 with ⟨ms, iM, e5, E5, f5⟩ | ⟨e5, hx⟩
  rotate_left
  · rw [e5, od_bS] at hd
    refine wok_b (wok_pe (sx_144 hx (by omega) hn) (pe_R _ _ _ _ _ k511)) fun r K hx => ?_
    exact wok_m (tail3 hx (by omega)) fun r K hx => Or.inr ⟨_, _, rba_f (hd.trans (if_pos rfl)) hfA (by rw [h.1.2.1.2.1]; omega), hx⟩
  rw [e5, od_bS] at hd
  dsimp only at hd
  rw [if_neg (by decide), dkS_217 hM E5.1.1, od_bS] at hd
  dsimp only at hd
  have ff5 : rm_fr FA (wq_up F 0 25 (i + 1)) := rm_fr_up hfA (by decide) (by decide)
  have x15 : wq_up F 0 25 (i + 1) 15 = F 15 := funext fun j => wq_up_cell (by decide)
  generalize wq_up F 0 25 (i + 1) = F5 at *
  have w5 : F5 0 41 = w := E5.1.2.1.2.1
  by_cases hex : tb_ex (tk_ty T n (tk_pos T n (i + 1))) = 0
  · rw [if_pos hex] at hd
    have wr := (bt_wr (B := 6210) hM E5.1 E5.2.1 E5.2.2.1 (by omega) (by omega) hnp (by omega)).1
    rw [wr, od_bS] at hd
    refine wok_b (wok_pe (cR_no (B := 6210) hM E5.1 E5.2.1 E5.2.2.1 (by omega) hn hex (by omega) (by omega) hnp (by omega)) (pe_R _ _ _ _ _ k511)) fun r K hx => ?_
    exact wok_m (tail3 hx (by omega)) fun r K hx => Or.inr ⟨_, _, rba_f hd ff5 (by omega), hx⟩
  rw [if_neg hex, dkS_30 (by omega), od_bS] at hd
  dsimp only at hd
  have em := e_mark (cb := cb) (a := 0) (b := 0) (l := 0) E5.1 E5.2.1 E5.2.2.1 hnp
  rw [dkS_31 (by rw [em.1.2.2.1.1]; omega), od_bS] at hd
  dsimp only at hd
  have e6 := e_la (cb := cb) (x1 := 22) (x2 := P.length) (x3 := 1 + lc T (tk_pos T n i)) (x4 := 0) em.1 em.2.1 em.2.2.1 hnp
  rw [dkS_31 (by rw [e6.1.2.2.1.1]; show W.length + 1 < 4000; omega), od_bS] at hd
  dsimp only at hd
  have e7 := e_la (cb := cb) (x1 := 14) (x2 := 0) (x3 := 0) (x4 := 0) e6.1 e6.2.1 e6.2.2.1 hnp
  rw [dkS_31 (by rw [e7.1.2.2.1.1]; show W.length + 2 < 4000; omega), od_bS] at hd
  have e8 := e_la (cb := cb) (x1 := 3) (x2 := 0) (x3 := 0) (x4 := 0) e7.1 e7.2.1 e7.2.2.1 hnp
  have hq5 := E5.2.2.1.2.2.2.2.2.1
  have E8 := eg_t E5 (eg_t em (eg_t e6 (eg_t e7 e8 em.2.2.1.2.2.2.2.2.1) em.2.2.1.2.2.2.2.2.1) hq5) hq62
  have ff8 : rm_fr FA (pm_la (pm_la (pm_la (pm_em F5 14 0 0 0) 22 P.length (1 + lc T (tk_pos T n i)) 0) 14 0 0 0) 3 0 0 0) := rm_fr_la (rm_fr_la (rm_fr_la (rm_fr_em ff5)))
  have x158 : pm_la (pm_la (pm_la (pm_em F5 14 0 0 0) 22 P.length (1 + lc T (tk_pos T n i)) 0) 14 0 0 0) 3 0 0 0 15 = F 15 := funext fun j => by
    rw [pm_la_ne (by omega) (by omega), pm_la_ne (by omega) (by omega), pm_la_ne (by omega) (by omega), pm_em_ne (by omega) (by omega), x15]
  generalize pm_la (pm_la (pm_la (pm_em F5 14 0 0 0) 22 P.length (1 + lc T (tk_pos T n i)) 0) 14 0 0 0) 3 0 0 0 = F8 at *
  have g8 : rgo nn FA mm F8 := rgo_i hd (by decide) E8.1.1.1 ff8
  refine wok_b (wok_pe (R_ok (cb := cb) (D := D + 1) hM hE (by omega) (by omega) (by omega) hn hc0 hO E8.1 E8.2.1 E8.2.2.1 ⟨by omega, by omega, by omega, by omega, hnp, q6, by rw [hg_1]; omega, by show W.length + 2 ≤ _; omega, q2, by omega, by omega, q5⟩) (pe_R _ _ _ _ _ k511)) fun r9 K9 h9 => ?_
  dsimp only
  obtain ⟨h9, k911⟩ := h9
  rcases h9 with ⟨i9, w9, s9, nw9, ns9, np9, ls9, cs9, H9, m, c9, g9, E9, ⟨v1, v2, v3, v4, v5⟩, y1, y2, y3⟩ | ⟨e, p, ho, hx⟩
  rotate_left
  · exact wok_m (tail3 ⟨hx, k911⟩ (by omega)) fun r K hx => Or.inr ⟨e, p, rgo_o g8 ho, hx⟩
  have i9M := E9.1.1.2.2.1
  have n9 : np9 ≤ 50 := E9.2.2.2.2.2.2
  obtain ⟨a, ea, ra⟩ : ∃ a, c9 = a ++ 1 :: (List.replicate (2 * nx PB) 0 ++ 1 :: c) ∧ ((r9 = m * 2 ∧ a = List.replicate m 0) ∨ (r9 = m * 2 + 1 ∧ a = 2 :: List.replicate (m - 1) 0)) := by
    rcases y3 with ⟨z1, z⟩ | ⟨z1, z⟩
    · exact ⟨List.replicate m 0, z, Or.inl ⟨z1, rfl⟩⟩
    · exact ⟨2 :: List.replicate (m - 1) 0, by rw [z]; rfl, Or.inr ⟨z1, rfl⟩⟩
  subst ea
  have hgoA := fun H => ry_go (nn := nn) (H := H) E9.1 (by show W.length < 4000; omega)
  have ep := e_pop (cb := cb) E9.1 E9.2.1 E9.2.2.1 n9
  have fp : rm_fr H9 (wq_up H9 0 46 W.length) := rm_fr_up (rm_fr_refl _) (by decide) (by decide)
  have h33 : dk_32 nn (wq_up H9 0 46 W.length) (22, P.length, 1 + lc T (tk_pos T n i), 0).1 (22, P.length, 1 + lc T (tk_pos T n i), 0).2.1 (22, P.length, 1 + lc T (tk_pos T n i), 0).2.2.1 (22, P.length, 1 + lc T (tk_pos T n i), 0).2.2.2 = dk_257 nn (wq_up H9 0 46 W.length) P.length (1 + lc T (tk_pos T n i)) := by
    show dk_32 nn (wq_up H9 0 46 W.length) 22 P.length (1 + lc T (tk_pos T n i)) 0 = _
    rw [dk32_22b]
  have E89 := eg_t E8 E9 hq62
  have x159 : F 15 (G 62 (N - 1)) ≤ wq_up H9 0 46 W.length 15 (G 62 (N - 1)) := by
    have z := (E89.2.2.2.1.2.1.2.2.2 (G 62 (N - 1)) (hq62 (N - 1) (by omega))).1
    rw [wq_up_cell (by decide)]
    exact z
  generalize dk_32 nn (wq_up H9 0 46 W.length) (22, P.length, 1 + lc T (tk_pos T n i), 0).1 (22, P.length, 1 + lc T (tk_pos T n i), 0).2.1 (22, P.length, 1 + lc T (tk_pos T n i), 0).2.2.1 (22, P.length, 1 + lc T (tk_pos T n i), 0).2.2.2 = m9 at *
  generalize wq_up H9 0 46 W.length = Hp at *
  have wp : Hp 0 41 = w9 := ep.1.2.1.2.1
  have hp60 : Hp 0 60 = P.length + PB.length := by
    have z := ep.1.2.2.2.2.1
    rw [hPl] at z
    rw [z, Nat.add_comm]
  unfold dk_257 at h33
  rw [hp60, show (P.length + PB.length + (4294967296 - P.length)) % 4294967296 = PB.length by omega, od_letS, dkS_30 (by omega), od_bS] at h33
  dsimp only at h33
  have at1 := pm_em_at (F := Hp) (op := 17) (a := 0) (b := 0) (ln := 1 + lc T (tk_pos T n i))
  rw [dkS_30 (by rw [at1.2.2.2.2]; omega), od_bS] at h33
  dsimp only at h33
  have ffE : rm_fr H9 (pm_em (pm_em Hp 17 0 0 (1 + lc T (tk_pos T n i))) 18 PB.length 0 0) := rm_fr_em (rm_fr_em fp)
  have xE : ∀ d j, ¬ (20 ≤ d ∧ d ≤ 23) → ¬ d = 0 → pm_em (pm_em Hp 17 0 0 (1 + lc T (tk_pos T n i))) 18 PB.length 0 0 d j = Hp d j := fun d j a b => by
    rw [pm_em_ne (by omega) (by omega), pm_em_ne (by omega) (by omega)]
  rw [show QB.length = PB.length from hlen.symm]
  refine wok_b (adj_ok (cb := cb) (m := m) (cnt := PB.length) (ln := 1 + lc T (tk_pos T n i)) ep.1 ep.2.1 ep.2.2.1 n9 (by omega) (by omega) (by omega) (by omega) ⟨y1, y2⟩ ra) fun rA KA hA => ?_
  refine wok_l ?_
  obtain ⟨sA, sA1, sA2, EA⟩ := hA
  show wok (dk_141_155 (dk_R nn k) nn nn KA (hg c) (3 * Q.length) ((KA 56 11 + (4294967296 - 3)) % 4294967296)) _
  have kA11 : KA 56 11 = 3 * (Q.length + QB.length) := by
    rw [EA.2.1.2.2.1.1, hQl, Nat.add_comm]
  have xE15 := xE 15 (G 62 (N - 1)) (by omega) (by omega)
  generalize pm_em (pm_em Hp 17 0 0 (1 + lc T (tk_pos T n i))) 18 PB.length 0 0 = HA at *
  have E9A := eg_t E89 (eg_t ep EA E9.2.2.1.2.2.2.2.2.1) hq62
  have kA62 : KA 62 (N - 1) = G 62 (N - 1) := (E9A.2.2.2.2.1.2.2.1 (N - 1) (by omega)).1
  have hpA := plr_up (b15' := HA 15 (KA 62 (N - 1))) (by rw [kA62, xE15]; exact x159) E9A.2.2.2.2.1.1.1 E9A.2.2.2.2.1.2.1 hp
  obtain ⟨gg, hgg⟩ : ∃ gg, nn = (gg + 1) + PB.length := ⟨nn - 1 - PB.length, by omega⟩
  have hA60 : HA 0 60 = P.length + PB.length := by
    have z := EA.1.2.2.2.2.1
    rw [hPl] at z
    rw [z, Nat.add_comm]
  have hpl : ry_pl HA (PB ++ P) := EA.1.2.2.2.2.2
  have hsm : ∀ (X Y : List (Nat × Nat × Nat)), plr (HA 15 (KA 62 (N - 1))) (1 :: c) ls9 cs9 X Y → ∀ p ∈ X, p.1 < 10 := fun X => by
    induction X with
    | nil => intro Y _ p hp; exact absurd hp (List.not_mem_nil)
    | cons x X ih =>
      intro Y hY p hp
      cases Y with
      | nil => exact hY.elim
      | cons y Y =>
        rcases List.mem_cons.mp hp with z | z
        · rw [z]
          rcases hY.1 with ⟨z, _⟩ | ⟨z, _⟩ | ⟨z, _⟩ | ⟨z, _⟩ <;> omega
        · exact ih Y hY.2 p z
  have cnt := as_cnt (nn := nn) (g := gg + 1) (F := HA) PB hpl (by omega) (by omega) (hsm PB QB hpA)
  have h35 : dk_257_35 nn nn HA P.length 0 P.length = dk_257_80 nn nn HA P.length (2 * nx PB) ((P.length + PB.length + 4294967295) % 4294967296) := by
    rw [show dk_257_35 nn nn = dk_257_35 nn (gg + 1 + PB.length) by rw [← hgg], cnt]
    show dk_257_35b nn (dk_257_35 nn gg) HA P.length (2 * nx PB) (P.length + PB.length) = _
    unfold dk_257_35b
    rw [hA60, if_neg (fun z => by have := (wd_slt (by omega) (by omega)).mp z; omega), od_letS]
  rw [h35] at h33
  obtain ⟨H, z1, z2, z3⟩ := as_stores (nn := nn) (R := dk_R nn k) (M0 := nx PB) (b15 := HA 15 (KA 62 (N - 1))) (P := P) (Q := Q) (cb := cb) (c := c) n9 (by omega) (by omega) PB QB (PB ++ P) (QB ++ Q) nn nn (w9 + 2) sA HA KA (by omega) (by omega) ⟨[], rfl⟩ ⟨[], rfl⟩ EA.1 EA.2.1 EA.2.2.1 hpA (Nat.le_refl _) (Nat.le_refl _) (by omega) (by omega) (by omega) (by omega)
  rw [z1] at h33
  rw [kA11, show (3 * (Q.length + QB.length) + (4294967296 - 3)) % 4294967296 = (3 * (Q.length + QB.length) + 4294967293) % 4294967296 by omega]
  refine wok_m z3 fun r K hK => ?_
  obtain ⟨w', s', EZ, a1, a2, a3, a4⟩ := hK
  have gZ := hgoA H (rgo_i h33 (by decide) EZ.1.1.1 (rm_fr_trans ffE z2))
  exact Or.inl ⟨i9, w', s', nw9, ns9, np9, ls9, cs9, H, rgo_t g8 ⟨rm_trans g9.1 gZ.1, rm_fr_trans g9.2 gZ.2⟩, eg_t h (eg_t E9A EZ hq62) h62, by omega, by omega, by omega, by omega, by omega⟩
end
