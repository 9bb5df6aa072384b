/-! ===== a53: local: names and values, all (wip/whole2/lawa53.py) ===== -/
section
variable {nn : Nat} {T : Nat → Nat} {n M O : Nat} {G0 : wq_F} {c0 : List (List Nat)} {i t w s nw ns np N : Nat} {off voff ph : Nat → Nat} {cx : Nat → List Nat} {c cb : List Nat} {W : List (Nat × Nat × Nat × Nat)} {L : List (Nat × Nat)} {P Q : List (Nat × Nat × Nat)} {ls cs : List (List Nat)} {F G : wq_F}

variable {f v0 : Nat} {Jr0 Jc0 : List Nat}
theorem loc_names {D k : Nat} (hM : tk_M T n M) (hn : 10000 < nn) (hc0 : c0.length ≤ 1400) (hO : O ≤ 20000) (hD : D ≤ 20) (hE : E_ok nn T n M G0 c0 O (D + 1)) (hkf : 20 * (22 - D) + 1 ≤ k) (htD : t = D) (hr : ry T n M i ls t w nw np W L P F) (hc : cy T n G0 c0 O i cs s ns np N Q G) (hb : bz N off voff ph cx c np F ls G cs) (hB : bnd i w s nw ns np t (hg c) W L P Q N) (hW : W.length ≤ 20 * t) (hbo : bo N L F G w s Jr0 Jc0) (hf : G 62 (N - 1) = f) (hv0 : F 14 f = v0) : wok ((dk_124 G).bind fun y14 => (dk_77 nn y14.2).bind fun y18 => (dk_125 nn y18.2).bind fun y22 => od_let (((y22.2 59 3) + (4294967296 - (off N))) % 4294967296) fun y26 => (dk_111 nn y22.2 49).bind fun y29 => if y29.1 = 0 then (dk_112 y29.2 1 y26 0 y26).bind fun y34 => (dk_167 nn y34.2 (off N) (hg c)).bind fun y38 => some (0, y38.2) else (dk_R nn k 144 [(D + 1) % 4294967296] y29.2).bind fun y42 => (dk_129 y42.2 y42.1 (hg c) y26 (y22.2 57 6)).bind fun y46 => (dk_167 nn y46.2 (off N) (hg c)).bind fun y50 => some (0, y50.2)) (fun _ K => (∃ i' w' s' nw' ns' np' ls' cs' H c' off' voff' ph', rgo nn F (dk_230_136 nn nn F i 0 v0 1) H ∧ ge T n M G0 c0 O N cx cb F G i ls cs w s nw ns np c off voff ph L Jr0 Jc0 t W P Q H K i' ls' cs' w' s' nw' ns' np' c' off' voff' ph' L [] [] ∧ lo N voff c voff' ph' c' K ∧ (i < i' ∧ w' + 6 * i ≤ w + 6 * i' ∧ s' + 4 * i ≤ s + 4 * i' ∧ nw' + i ≤ nw + i' ∧ ns' + i ≤ ns + i') ∧ hg c' + 2 * i ≤ hg c + 2 * i') ∨ ∃ e p, rba nn F (dk_230_136 nn nn F i 0 v0 1) e p ∧ sx T n G0 c0 O e p N (zz D + 95) K) := by
  have hz : 6200 ≤ zz D ∧ zz D < 9800 ∧ zz (D + 1) + 110 = zz D := by unfold zz; omega
  obtain ⟨m1, m2, m3, m4, m5, m6, m7, m8, m9, m10, m11, m12⟩ := hB
  have hM1 := hM.1
  have hiM := hr.1.2.2.1
  have hN := hb.1.1
  have h62 := hb.2.2.2.2.2.1
  obtain ⟨⟨n1, n2, n3⟩, ⟨n4, n5⟩, n6, ⟨n7, n8⟩, ⟨n9, n10⟩, n11, n12⟩ := nm_n hb m5 hf
  obtain ⟨g0, hg0⟩ : ∃ a, nn = a + 1 := ⟨nn - 1, by omega⟩
  have hR : (dk_230_136 nn nn F i 0 v0 1) = nmR F fun _ F' => loE nn i v0 g0 F' 1 := by
    rw [show dk_230_136 nn nn = dk_230_136 nn (g0 + 1) by rw [← hg0]]
    exact loE_s (by decide)
  generalize (dk_230_136 nn nn F i 0 v0 1) = RL at *
  refine wok_bb (nm_any (g := fun _ F' => loE nn i v0 g0 F' 1) (B := 6200) hM hn hc0 hO hr hc hb (by omega) (by omega) m5 (by omega) (by omega) hf) fun r1 K1 h1 => ?_
  dsimp only
  rcases h1 with ⟨ms1, H1, ⟨a1, a2, a3⟩, e1, r1', c1, b1, n1', s1, ff1, y1, xf1, xg1⟩ | ⟨e, p, H, e1, ff1, w1, hx⟩
  rotate_left
  · refine wok_b (sx_125 hx hn) fun r K h => ?_
    exact wok_m (sx_lo2 h (by omega) n11 hn) fun r K h => Or.inr ⟨e, p, rba_f (hR.trans e1) ff1 w1, sx_le h (by omega)⟩
  have hR1 := hR.trans e1
  have k162 : K1 62 (N - 1) = f := (xg1 62 _ (by omega) (by omega) (by omega) (by omega) (by omega)).trans hf
  have p1 : nq T n N off voff ph cx c np i 1 H1 ls K1 ms1 := ⟨b1, fun x a b => by rw [show x = off N by omega]; exact n1'.1, fun j hj => by rw [show j = 0 by omega]; exact ⟨a1, n1'.2⟩⟩
  unfold dk_125
  refine wok_b (nm_list (E := loE nn i v0) (FIN := loF nn i v0) (i0 := i) (v0 := v0) (B := 6200) (fun g F v h => loE_0 h) (fun g F v h1 h2 => loE_1 h1 h2) hM hn hc0 hO (by omega) (by omega) m5 (by omega) (by omega) 50 1 0 nn g0 (i + 1) ms1 H1 K1 (by omega) (by omega) (by omega) (by omega) (by omega) r1' c1 p1 k162 (by omega)) fun r2 K2 h2 => ?_
  dsimp only
  rcases h2 with ⟨i2, v, ms2, H2, e2, r2', c2, p2, y2, ⟨s2, i2e, v2, ff2⟩, xf2, xg2⟩ | ⟨e, p, H, e2, ff2, w2, hx⟩
  rotate_left
  · exact wok_m (sx_lo2 hx (by omega) n11 hn) fun r K h => Or.inr ⟨e, p, rba_f (hR1.trans e2) (rm_fr_trans ff1 ff2) w2, sx_le h (by omega)⟩
  have hL := hR1.trans e2
  have xfA : nm_f f F H2 := nm_f_t xf1 xf2
  have xgA : nm_g f (off N) G K2 := nm_g_t xg1 xg2 (Nat.le_refl _)
  have ffA : rm_fr F H2 := rm_fr_trans ff1 ff2
  have k262 : K2 62 (N - 1) = f := (xg2 62 _ (by omega) (by omega) (by omega) (by omega) (by omega)).trans k162
  obtain ⟨_, _, o6, ⟨o7, o8⟩, _, o11, _⟩ := nm_n p2.1 m5 k262
  rw [at_N_is] at o6 o11
  have i2M := r2'.1.2.2.1
  have hln : K2 57 6 = 1 + lc T (tk_pos T n i2) := c2.1.2.1.2.2.1
  have hlc : lc T (tk_pos T n i2) ≤ 6000 := Nat.le_trans (lc_le T _) (Nat.le_trans (tk_pos_le hM i2 i2M) hM.2.2.2.1)
  have h41 : H2 0 41 = w := r2'.2.1.2.1
  rw [o6, show (off N + v + (4294967296 - off N)) % 4294967296 = v by omega, od_letS, hln, Nat.mod_eq_of_lt (show D + 1 < 4294967296 by omega)]
  have em := e_mark (cb := cb) (a := 0) (b := 0) (l := 0) r2' c2 p2.1 m5
  have h622 := p2.1.2.2.2.2.2.1
  unfold loF at hL
  rw [dkS_30 (by omega), od_bS] at hL
  dsimp only at hL
  have ff3 : rm_fr F (pm_em H2 14 0 0 0) := rm_fr_em ffA
  generalize pm_em H2 14 0 0 0 = F3 at *
  rw [pm_isSign hM em.1.1 (by decide), od_bS] at hL
  dsimp only at hL
  rw [if_ck] at hL
  refine wok_b (e_opt (cb := cb) (x := 61) (B := 6210) hM em.1 em.2.1 em.2.2.1 (by decide) (by decide) hn hc0 hO (by omega) (by omega) m5 (by omega)) fun r4 K4 h4 => ?_
  dsimp only
  rcases h4 with ⟨ms4, rr, iM4, q4, e4, E4, f4⟩ | ⟨q4, e4, rr, hx⟩ | ⟨rr, q4, eK⟩
  · -- values
    refine wok_f (by omega) ?_
    rw [if_pos q4, pm_line hM em.1.1, od_bS] at hL
    dsimp only at hL
    rw [e4, od_bS] at hL
    dsimp only at hL
    rw [if_neg (by decide), dkS_217 hM E4.1.1, od_bS] at hL
    dsimp only at hL
    have E34 := eg_t em E4 h622
    have ff4 : rm_fr F (wq_up F3 0 25 (i2 + 1)) := rm_fr_up ff3 (by decide) (by decide)
    generalize wq_up F3 0 25 (i2 + 1) = F4 at *
    have w4 : F4 0 41 = w + 1 := E4.1.2.1.2.1
    by_cases hex : tb_ex (tk_ty T n (tk_pos T n (i2 + 1))) = 0
    · rw [if_pos hex] at hL
      have wr := (bt_wr (B := 6210) hM E4.1 E4.2.1 E4.2.2.1 (by omega) (by omega) m5 (by omega)).1
      rw [wr, od_bS] at hL
      refine wok_b (cR_no (B := 6210) hM E4.1 E4.2.1 E4.2.2.1 (by omega) hn hex (by omega) (by omega) m5 (by omega)) fun r K hx => ?_
      exact wok_m (sx_lo3 hx (by omega) n11 (by omega) hn) fun r K h => Or.inr ⟨_, _, rba_f hL ff4 (by omega), sx_le h (by omega)⟩
    · have ev : (ev_oMul v 100 + v0) % 4294967296 = v * 100 + v0 := by
        show ((v * 100) % 4294967296 + v0) % 4294967296 = _
        omega
      rw [if_neg hex, od_letS, ev, dkS_31 (by rw [E4.1.2.2.1.1]; omega), od_bS] at hL
      dsimp only at hL
      have e5 := e_la (cb := cb) (x1 := 39) (x2 := 1 + lc T (tk_pos T n i2)) (x3 := i) (x4 := v * 100 + v0) E4.1 E4.2.1 E4.2.2.1 m5
      rw [dkS_31 (by rw [e5.1.2.2.1.1]; show W.length + 1 < 4000; omega), od_bS] at hL
      dsimp only at hL
      have e6 := e_la (cb := cb) (x1 := 14) (x2 := 0) (x3 := 0) (x4 := 0) e5.1 e5.2.1 e5.2.2.1 m5
      rw [dkS_31 (by rw [e6.1.2.2.1.1]; show W.length + 2 < 4000; omega), od_bS] at hL
      have e7 := e_la (cb := cb) (x1 := 3) (x2 := 0) (x3 := 0) (x4 := 0) e6.1 e6.2.1 e6.2.2.1 m5
      have h624 := E4.2.2.1.2.2.2.2.2.1
      have E7 := eg_t E34 (eg_t e5 (eg_t e6 e7 h624) h624) h622
      have ff7 : rm_fr F (pm_la (pm_la (pm_la F4 39 (1 + lc T (tk_pos T n i2)) i (v * 100 + v0)) 14 0 0 0) 3 0 0 0) := rm_fr_la (rm_fr_la (rm_fr_la ff4))
      generalize pm_la (pm_la (pm_la F4 39 (1 + lc T (tk_pos T n i2)) i (v * 100 + v0)) 14 0 0 0) 3 0 0 0 = F7 at *
      have g7 : rgo nn F RL F7 := rgo_i hL (by decide) E7.1.1.1 ff7
      refine wok_b (R_ok (cb := cb) (D := D + 1) hM hE (by omega) (by omega) (by omega) hn hc0 hO E7.1 E7.2.1 E7.2.2.1 ⟨by omega, by omega, by omega, by omega, m5, m6, by rw [hg_1]; omega, by show W.length + 2 ≤ _; omega, m9, m10, m11, m12⟩) fun r8 K8 h8 => ?_
      dsimp only
      rcases h8 with ⟨i8, w8, s8, nw8, ns8, np8, ls8, cs8, H8, m, c', g8, E8, ⟨u1, u2, u3, u4, u5⟩, v8, v8b, v8c⟩ | ⟨e, p, ho, hx⟩
      rotate_left
      · exact wok_m (sx_lo3 hx (by omega) n11 (by omega) hn) fun r K h => Or.inr ⟨e, p, rgo_o g7 ho, sx_le h (by omega)⟩
      have i8M := E8.1.1.2.2.1
      have n8' : np8 ≤ 50 := E8.2.2.2.2.2.2
      obtain ⟨a, ea, ra⟩ : ∃ a, c' = a ++ 1 :: c ∧ ((r8 = m * 2 ∧ a = List.replicate m 0) ∨ (r8 = m * 2 + 1 ∧ a = 2 :: List.replicate (m - 1) 0)) := by
        rcases v8c with ⟨z1, z⟩ | ⟨z1, z⟩
        · exact ⟨List.replicate m 0, z, Or.inl ⟨z1, rfl⟩⟩
        · exact ⟨2 :: List.replicate (m - 1) 0, by rw [z]; rfl, Or.inr ⟨z1, rfl⟩⟩
      subst ea
      have hgoA := fun H => ry_go (nn := nn) (H := H) E8.1 (by show W.length < 4000; omega)
      have rp := ry_pop E8.1
      have ep := e_pop (cb := cb) E8.1 E8.2.1 E8.2.2.1 n8'
      have fp : rm_fr H8 (wq_up H8 0 46 W.length) := rm_fr_up (rm_fr_refl _) (by decide) (by decide)
      have dv := dv_100 v (by omega) v0 (by omega)
      have h33 : dk_32 nn (wq_up H8 0 46 W.length) (39, 1 + lc T (tk_pos T n i2), i, v * 100 + v0).1 (39, 1 + lc T (tk_pos T n i2), i, v * 100 + v0).2.1 (39, 1 + lc T (tk_pos T n i2), i, v * 100 + v0).2.2.1 (39, 1 + lc T (tk_pos T n i2), i, v * 100 + v0).2.2.2 = dk_231 nn (wq_up H8 0 46 W.length) (1 + lc T (tk_pos T n i2)) i v v0 := by
        show dk_32 nn (wq_up H8 0 46 W.length) 39 (1 + lc T (tk_pos T n i2)) i (v * 100 + v0) = _
        rw [dk32_39b, dv.1, dv.2]
      generalize dk_32 nn (wq_up H8 0 46 W.length) (39, 1 + lc T (tk_pos T n i2), i, v * 100 + v0).1 (39, 1 + lc T (tk_pos T n i2), i, v * 100 + v0).2.1 (39, 1 + lc T (tk_pos T n i2), i, v * 100 + v0).2.2.1 (39, 1 + lc T (tk_pos T n i2), i, v * 100 + v0).2.2.2 = mm at *
      generalize wq_up H8 0 46 W.length = Hp at *
      have wp : Hp 0 41 = w8 := rp.2.1.2.1
      have at1 := pm_em_at (F := Hp) (op := 17) (a := 0) (b := 0) (ln := 1 + lc T (tk_pos T n i2))
      have w9 : pm_em Hp 17 0 0 (1 + lc T (tk_pos T n i2)) 0 41 = w8 + 1 := by rw [at1.2.2.2.2, wp]
      unfold dk_231 at h33
      rw [if_pos ⟨by omega, by omega⟩, dkS_30 (by omega), od_bS] at h33
      dsimp only at h33
      unfold dk_231_18 at h33
      rw [dkS_30 (by omega), od_bS, od_letS] at h33
      dsimp only at h33
      have ff9 : rm_fr H8 (pm_em (pm_em Hp 17 0 0 (1 + lc T (tk_pos T n i2))) 18 v 0 0) := rm_fr_em (rm_fr_em fp)
      refine wok_b (adj_ok (cb := cb) (m := m) ep.1 ep.2.1 ep.2.2.1 n8' (by omega) (by omega) (by omega) (by omega) ⟨v8, v8b⟩ ra) fun r9 K9 h9 => ?_
      dsimp only
      obtain ⟨s9, s9a, s9b, E9⟩ := h9
      generalize pm_em (pm_em Hp 17 0 0 (1 + lc T (tk_pos T n i2))) 18 v 0 0 = F9 at *
      have EA := eg_t E7 (eg_t E8 (eg_t ep E9 E8.2.2.1.2.2.2.2.2.1) E7.2.2.1.2.2.2.2.2.1) h622
      refine loc_end (D := D) (A := H8) (F4 := F9) (v := v) hM hn hb m5 hbo hf hv0 p2 y2 (st_pre_trans s1 s2) xfA xgA (by omega) (by omega) EA (by omega) (by omega) (by omega) ⟨by omega, by omega, by omega, by omega, by omega⟩ (by omega) (fun H z => ?_) ff9
      rw [show (v + 4294967295) % 4294967296 = (v + (4294967296 - 1)) % 4294967296 from rfl, ← h33] at z
      exact rgo_t g7 ⟨rm_trans g8.1 (hgoA H z).1, rm_fr_trans g8.2 (hgoA H z).2⟩
  · -- stopped at the =
    refine wok_f (by omega) ?_
    rw [if_pos q4, pm_line hM em.1.1, od_bS] at hL
    dsimp only at hL
    rw [e4, od_bS] at hL
    dsimp only at hL
    rw [if_pos rfl] at hL
    refine wok_b (sx_144 hx (by omega) hn) fun r K hx => ?_
    exact wok_m (sx_lo3 hx (by omega) n11 (by omega) hn) fun r K h => Or.inr ⟨_, _, rba_f hL ff3 (by rw [em.1.2.1.2.1]; omega), sx_le h (by omega)⟩
  · -- no values
    refine wok_t rr ?_
    rw [eK]
    rw [if_neg q4, od_bI] at hL
    have w3 : F3 0 41 = w + 1 := em.1.2.1.2.1
    unfold dk_231 at hL
    rw [if_neg (by omega)] at hL
    unfold dk_231_18 at hL
    rw [dkS_30 (by omega), od_bS, od_letS] at hL
    dsimp only at hL
    have ff4 : rm_fr F (pm_em F3 18 v 0 0) := rm_fr_em ff3
    refine wok_b (e_112 (cb := cb) (o := 18) (a := v) (b := 0) (l := 0) (op := 1) (x := v) (l' := 0) (by' := v) (d := List.replicate v 0 ++ c) em.1 em.2.1 em.2.2.1 m5 (by omega) (by rw [hg_app, hg_rep, hg_1]; omega) (fun k _ _ z => cx_at_up (cx_at_dn (a := [1]) (fun e he => by rw [List.mem_singleton.mp he]; decide) z) _) (fun e he => ?_) (fun H J nm h1 h2 _ => Or.inl ⟨18, h1.1, h2.1, h1.2.1.trans h2.2.1.symm, by rw [h2.2.1]; omega, c, rfl, by rw [h2.2.1]⟩)) fun r5 K5 h5 => ?_
    · rcases List.mem_append.mp he with z | z
      · rw [rep_lt z]
        omega
      · exact bz_fr em.2.2.1 e (List.mem_cons_of_mem _ z)
    dsimp only
    obtain ⟨E5, _⟩ := h5
    generalize pm_em F3 18 v 0 0 = F4 at *
    have EA := eg_t em E5 h622
    refine loc_end (D := D) (A := F) (F4 := F4) (v := v) hM hn hb m5 hbo hf hv0 p2 y2 (st_pre_trans s1 s2) xfA xgA (by omega) (by omega) EA (by omega) (by omega) (by omega) ⟨by omega, by omega, by omega, by omega, by omega⟩ (by omega) (fun H z => ?_) ff4
    rw [hL]
    exact z
end
