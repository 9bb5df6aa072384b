/-! ===== a70: a loop over rows behind its names (wip/whole2/lawa70.py) ===== -/
section
variable {nn : Nat} {T : Nat → Nat} {n M O : Nat} {G0 : wq_F} {c0 : List (List Nat)} {i t w s nw ns np N : Nat} {off voff ph : Nat → Nat} {cx : Nat → List Nat} {c cb : List Nat} {W : List (Nat × Nat × Nat × Nat)} {L : List (Nat × Nat)} {P Q : List (Nat × Nat × Nat)} {ls cs : List (List Nat)} {F G : wq_F}

variable {f i0 m v0 : Nat}
theorem dkS_214 {x : Nat} (hM : tk_M T n M) (h : pm_at T n M i F ls) (hx : 1 ≤ x ∧ x ≤ 21) : dk_214 F x = if tk_k T n i = 4 ∧ tk_V T n (tk_pos T n i) = x then (if i = 1500 then some (0, pm_f F 3 (tk_pos T n i)) else some (1, wq_up F 0 25 (i + 1))) else some (0, pm_f F (tk_wr T n i) (tk_pos T n i)) := by
  unfold dk_214
  rw [pm_isWord hM h (by omega), od_bS]
  dsimp only
  rw [if_ck]
  by_cases q : tk_k T n i = 4 ∧ tk_V T n (tk_pos T n i) = x
  · rw [if_pos q, if_pos q, pm_take hM h (by omega)]
    by_cases z : i = 1500
    · rw [if_pos z, od_bS]
    · rw [if_neg z, od_bS]
  · rw [if_neg q, if_neg q, pm_wrong hM h, od_bS]
set_option maxHeartbeats 4000000 in
theorem for_row {D k : Nat} {FA : wq_F} {mm : Option (Nat × wq_F)} (hM : tk_M T n M) (hn : 10000 < nn) (hc0 : c0.length ≤ 1400) (hO : O ≤ 20000) (hn2 : 14000 < nn) (hD : D ≤ 20) (hE : E_ok nn T n M G0 c0 O (D + 1)) (hBk : Bk_ok nn T n M G0 c0 O (D + 1)) (hkf : 20 * (22 - D) + 10 ≤ k) (htD : t = D) (hr : ry T n M i ls t w nw np W L P F) (hc : cy T n G0 c0 O i cs s ns np N Q G) (hp : nq T n N off voff ph cx c np i0 m F ls G cs) (hm1 : 1 ≤ m) (hoff : off (N - 1) ≤ off N ∧ voff (N - 1) ≤ voff N) (hph : ∀ k, k < voff N → ph k < off N) (h61c : ∀ k, voff (N - 1) ≤ k → k < voff N → G 61 (ph k) < hg c) (hf : G 62 (N - 1) = f) (h14 : F 14 f = v0 + m) (hv : v0 + m ≤ 50) (hc5 : ∀ e ∈ c, e < v0 + 5) (hfs : fs c) (hi0 : i0 + 2 * m ≤ M + 1) (hB : bnd i w s nw ns np t (hg c + m) W L P Q N) (hW : W.length ≤ 20 * t) (hL1 : L.length + 1 ≤ t) (hao : off N ≤ 1200) (hs : s ≤ 4 * i + 34) (hfA : rm_fr FA F) (hd : mm = (dk_215 F).bind fun y6 => (dk_214 y6.2 11).bind fun y10 => if y10.1 = 0 then some (0, y10.2) else (dk_217 y10.2).bind fun y15 => if y15.1 = 0 then (dk_211 y15.2).bind fun y39 => some (y39.1, y39.2) else (dk_30 y15.2 14 0 0 0).bind fun y20 => od_let (((ev_oMul m 100) + v0) % 4294967296) fun y24 => (dk_31 y20.2 35 y6.1 i0 y24).bind fun y27 => (dk_31 y27.2 14 0 0 0).bind fun y31 => (dk_31 y31.2 3 0 0 0).bind fun y35 => some (1, y35.2)) : wok (dk_128 (dk_R nn k) nn G D (off N)) (fun _ K => (∃ i' w' s' nw' ns' np' ls' cs' H K2, wq_up K 59 3 (off N) = K2 ∧ rgo nn FA (mm) H ∧ eg T n M G0 c0 O N off voff ph cx cb F G i ls cs w s nw ns np c t W L P Q H K2 i' ls' cs' w' s' nw' ns' np' c ∧ (i < i' ∧ w' + 3 + 6 * i ≤ w + 6 * i' ∧ s' + 2 + 4 * i ≤ s + 4 * i' ∧ nw' + i ≤ nw + i' ∧ ns' + i ≤ ns + i')) ∨ ∃ e p, rba nn FA (mm) e p ∧ sx T n G0 c0 O e p N (zz D + 40) K) := by
  have hz : 6310 ≤ zz D ∧ zz D < 9800 ∧ zz (D + 1) + 110 = zz D := by unfold zz; omega
  obtain ⟨m1, m2, m3, m4, m5, m6, m7, m8, m9, m10, m11, m12⟩ := hB
  have hM1 := hM.1
  have hiM := hr.1.2.2.1
  have hb := hp.1
  have hN := hb.1.1
  have h62 := hb.2.2.2.2.2.1
  have hw0 : F 0 41 = w := hr.2.1.2.1
  have hok : okj (G 65 (N - 1)) := hc.2.2.2.2.2 (N - 1) (by omega)
  have hln : G 57 6 = 1 + lc T (tk_pos T n i) := hc.1.2.1.2.2.1
  have hlc : lc T (tk_pos T n i) ≤ 6000 := Nat.le_trans (lc_le T _) (Nat.le_trans (tk_pos_le hM i hiM) hM.2.2.2.1)
  have h593 : G 59 3 = off N + m := by
    have z := hb.1.1.2.2.2.2.2.2.1
    rw [at_N_is] at z
    exact z
  have sxA : ∀ {e p B r : Nat} {K : wq_F}, sx T n G0 c0 O e p N B K → B + 16 < 10000 → wok ((dk_129 K r (hg c) 3 (1 + lc T (tk_pos T n i))).bind fun y20 => (dk_78 y20.2 0 0 0 0).bind fun y24 => dk_128_80 (dk_R nn k) nn nn y24.2 D (off N) (G 65 (N - 1)) (hg c) m (1 + lc T (tk_pos T n i)) (y20.2 11 4) 0) (fun _ K => sx T n G0 c0 O e p N (B + 10) K) := fun {e p B r K} hx hB => by
    refine wok_b (sx_129 hx (by omega) (by decide)) fun r K1 hx => ?_
    have k4 : K1 11 4 < 10000 := Nat.lt_of_le_of_lt hx.2.2.1.1 (by omega)
    refine wok_b (sx_78 hx (by omega) (okj_p (by decide))) fun r K2 hx => ?_
    exact wok_m (sx_128 hao (by omega) hn (okj_p k4) hok 3 0 nn _ K2 (by omega) (by omega) (by omega) (okj_p (by omega)) hx.2) fun r K h => sx_le h (by omega)
  unfold dk_128
  rw [cy_164 hc hb, od_bS]
  dsimp only
  rw [cy_84 hc hb, od_bS]
  dsimp only
  rw [h593, hln, show (off N + m + (4294967296 - off N)) % 4294967296 = m by omega, Nat.mod_eq_of_lt (show D + 1 < 4294967296 by omega)]
  refine wok_l ?_
  rw [pm_line hM hr.1, od_bS] at hd
  dsimp only at hd
  refine wok_b (e_wd (cb := cb) (x := 11) (B := 6210) hM hr hc hb (by decide) hn hc0 hO (by omega) (by omega) m5 (by omega)) fun r K1 h1 => ?_
  dsimp only
  rcases h1 with ⟨ms, iM, e1, E1, f1⟩ | ⟨kk, e1, hx⟩
  rotate_left
  · rw [e1, od_bS] at hd
    refine wok_b (sx_144 hx (by omega) hn) fun r K h => ?_
    exact wok_m (sxA h (by omega)) fun r K h => Or.inr ⟨_, _, rba_f (hd.trans (if_pos rfl)) hfA (by omega), sx_le h (by omega)⟩
  rw [e1, od_bS] at hd
  dsimp only at hd
  rw [if_neg (by decide), dkS_217 hM E1.1.1, od_bS] at hd
  dsimp only at hd
  have ff1 : rm_fr FA (wq_up F 0 25 (i + 1)) := rm_fr_up hfA (by decide) (by decide)
  generalize wq_up F 0 25 (i + 1) = F1 at *
  have w1 : F1 0 41 = w := E1.1.2.1.2.1
  by_cases hex : tb_ex (tk_ty T n (tk_pos T n (i + 1))) = 0
  · rw [if_pos hex] at hd
    have wr := (bt_wr (B := 6210) hM E1.1 E1.2.1 E1.2.2.1 (by omega) (by omega) m5 (by omega)).1
    rw [wr, od_bS] at hd
    refine wok_b (cR_no (B := 6210) hM E1.1 E1.2.1 E1.2.2.1 (by omega) hn hex (by omega) (by omega) m5 (by omega)) fun r K hx => ?_
    exact wok_m (sxA hx (by omega)) fun r K h => Or.inr ⟨_, _, rba_f hd ff1 (by omega), sx_le h (by omega)⟩
  rw [if_neg hex, dkS_30 (by omega), od_bS] at hd
  dsimp only at hd
  rw [dv_100b m (by omega) v0 (by omega), od_letS] at hd
  have em := e_mark (cb := cb) (a := 0) (b := 0) (l := 0) E1.1 E1.2.1 E1.2.2.1 m5
  rw [dkS_31 (by rw [em.1.2.2.1.1]; omega), od_bS] at hd
  dsimp only at hd
  have e6 := e_la (cb := cb) (x1 := 35) (x2 := 1 + lc T (tk_pos T n i)) (x3 := i0) (x4 := m * 100 + v0) em.1 em.2.1 em.2.2.1 m5
  rw [dkS_31 (by rw [e6.1.2.2.1.1]; show W.length + 1 < 4000; omega), od_bS] at hd
  dsimp only at hd
  have e7 := e_la (cb := cb) (x1 := 14) (x2 := 0) (x3 := 0) (x4 := 0) e6.1 e6.2.1 e6.2.2.1 m5
  rw [dkS_31 (by rw [e7.1.2.2.1.1]; show W.length + 2 < 4000; omega), od_bS] at hd
  have e8 := e_la (cb := cb) (x1 := 3) (x2 := 0) (x3 := 0) (x4 := 0) e7.1 e7.2.1 e7.2.2.1 m5
  have hq1 := E1.2.2.1.2.2.2.2.2.1
  have hqm := em.2.2.1.2.2.2.2.2.1
  have E8 := eg_t E1 (eg_t em (eg_t e6 (eg_t e7 e8 hqm) hqm) hq1) h62
  have ff8 : rm_fr FA (pm_la (pm_la (pm_la (pm_em F1 14 0 0 0) 35 (1 + lc T (tk_pos T n i)) i0 (m * 100 + v0)) 14 0 0 0) 3 0 0 0) := rm_fr_la (rm_fr_la (rm_fr_la (rm_fr_em ff1)))
  generalize pm_la (pm_la (pm_la (pm_em F1 14 0 0 0) 35 (1 + lc T (tk_pos T n i)) i0 (m * 100 + v0)) 14 0 0 0) 3 0 0 0 = F8 at *
  have g8 : rgo nn FA mm F8 := rgo_i hd (by decide) E8.1.1.1 ff8
  refine wok_b (R_ok (cb := cb) (D := D + 1) hM hE (by omega) (by omega) (by omega) hn hc0 hO E8.1 E8.2.1 E8.2.2.1 ⟨by omega, by omega, by omega, by omega, m5, m6, by rw [hg_1]; omega, by show W.length + 2 ≤ _; omega, m9, m10, m11, m12⟩) fun r9 K9 h9 => ?_
  dsimp only
  rcases h9 with ⟨i9, w9, s9, nw9, ns9, np9, ls9, cs9, H9, mr, c9, g9, E9, ⟨v1, v2, v3, v4, v5⟩, y1, y2, y3⟩ | ⟨e, p, ho, hx⟩
  rotate_left
  · exact wok_m (sxA hx (by omega)) fun r K h => Or.inr ⟨e, p, rgo_o g8 ho, sx_le h (by omega)⟩
  have i9M := E9.1.1.2.2.1
  have n9 : np9 ≤ 50 := E9.2.2.2.2.2.2
  obtain ⟨a, ea, ra⟩ : ∃ a, c9 = a ++ 1 :: c ∧ ((r9 = mr * 2 ∧ a = List.replicate mr 0) ∨ (r9 = mr * 2 + 1 ∧ a = 2 :: List.replicate (mr - 1) 0)) := by
    rcases y3 with ⟨z1, z⟩ | ⟨z1, z⟩
    · exact ⟨List.replicate mr 0, z, Or.inl ⟨z1, rfl⟩⟩
    · exact ⟨2 :: List.replicate (mr - 1) 0, by rw [z]; rfl, Or.inr ⟨z1, rfl⟩⟩
  subst ea
  have hgo9 := fun H => ry_go (nn := nn) (H := H) E9.1 (by show W.length < 4000; omega)
  have hba9 := fun k p => ry_ba (nn := nn) (k := k) (p := p) E9.1 (by show W.length < 4000; omega)
  have ep := e_pop (cb := cb) E9.1 E9.2.1 E9.2.2.1 n9
  have fp : rm_fr H9 (wq_up H9 0 46 W.length) := rm_fr_up (rm_fr_refl _) (by decide) (by decide)
  have dv := dv_100 m (by omega) v0 (by omega)
  have h33 : dk_32 nn (wq_up H9 0 46 W.length) (35, 1 + lc T (tk_pos T n i), i0, m * 100 + v0).1 (35, 1 + lc T (tk_pos T n i), i0, m * 100 + v0).2.1 (35, 1 + lc T (tk_pos T n i), i0, m * 100 + v0).2.2.1 (35, 1 + lc T (tk_pos T n i), i0, m * 100 + v0).2.2.2 = dk_269 nn (wq_up H9 0 46 W.length) (1 + lc T (tk_pos T n i)) i0 (m * 100 + v0) := by
    show dk_32 nn (wq_up H9 0 46 W.length) 35 (1 + lc T (tk_pos T n i)) i0 (m * 100 + v0) = _
    rw [dk32_35b]
  generalize dk_32 nn (wq_up H9 0 46 W.length) (35, 1 + lc T (tk_pos T n i), i0, m * 100 + v0).1 (35, 1 + lc T (tk_pos T n i), i0, m * 100 + v0).2.1 (35, 1 + lc T (tk_pos T n i), i0, m * 100 + v0).2.2.1 (35, 1 + lc T (tk_pos T n i), i0, m * 100 + v0).2.2.2 = m9' at *
  generalize wq_up H9 0 46 W.length = Hp at *
  have wp : Hp 0 41 = w9 := ep.1.2.1.2.1
  unfold dk_269 at h33
  rw [dv.1, dv.2] at h33
  have hq9 := E9.2.2.1.2.2.2.2.2.1
  refine wok_b (adj_ok (cb := cb) (m := mr) (cnt := 3) (ln := 1 + lc T (tk_pos T n i)) ep.1 ep.2.1 ep.2.2.1 n9 (by omega) (by omega) (by omega) (by omega) ⟨y1, y2⟩ ra) fun rA KA hA => ?_
  dsimp only
  obtain ⟨sA, sA1, sA2, EA⟩ := hA
  rw [show KA 11 4 = sA from EA.2.1.2.1.1]
  have EZ := eg_t (eg_t E8 E9 h62) (eg_t ep EA hq9) h62
  have hpm := EA.1.1
  have e214 := dkS_214 (x := 3) hM hpm (by decide)
  have p214 := dkS_214 (x := 3) hM ep.1.1 (by decide)
  have ecm : ∀ v, pm_em (pm_em (wq_up Hp 0 25 v) 17 0 0 (1 + lc T (tk_pos T n i))) 18 3 0 0 = wq_up (pm_em (pm_em Hp 17 0 0 (1 + lc T (tk_pos T n i))) 18 3 0 0) 0 25 v := fun v => by
    rw [pm_em_up (by decide) (by decide), pm_em_up (by decide) (by decide)]
  have ffA : rm_fr H9 (pm_em (pm_em Hp 17 0 0 (1 + lc T (tk_pos T n i))) 18 3 0 0) := rm_fr_em (rm_fr_em fp)
  have w17 : ∀ v, wq_up Hp 0 25 v 0 41 = w9 := fun v => (wq_up_at (by decide)).trans wp
  have w18 : ∀ v, pm_em (wq_up Hp 0 25 v) 17 0 0 (1 + lc T (tk_pos T n i)) 0 41 = w9 + 1 := fun v => by
    rw [pm_em_at.2.2.2.2, w17]
  have em2 : ∀ v, ((dk_30 (wq_up Hp 0 25 v) 17 0 0 (1 + lc T (tk_pos T n i))).bind fun y6 => dk_30 y6.2 18 3 0 0) = some (w9 + 1, wq_up (pm_em (pm_em Hp 17 0 0 (1 + lc T (tk_pos T n i))) 18 3 0 0) 0 25 v) := fun v => by
    rw [dkS_30 (by rw [w17]; omega), od_bS]
    dsimp only
    rw [dkS_30 (by rw [w18]; omega), w18, ecm]
  obtain ⟨t1, t2, t3⟩ := EZ.2.2.2.2.1
  have t32 := t3.2
  rw [at_N_is] at t32
  have k62 : ∀ l, l < N → KA 62 l = G 62 l := fun l hl => (t3.1 l hl).1
  obtain ⟨_, _, _, ⟨o7, o8⟩, _⟩ := nm_n EA.2.2.1 n9 ((k62 _ (by omega)).trans hf)
  obtain ⟨_, _, _, ⟨q7, q8⟩, _⟩ := nm_n hb m5 hf
  have hfN : f < np := by rw [← hf]; exact h62 (N - 1) (by omega)
  have q19 := (EZ.2.2.2.1.2.2.1.2.2.2 f hfN).2.2
  generalize pm_em (pm_em Hp 17 0 0 (1 + lc T (tk_pos T n i))) 18 3 0 0 = Fa at *
  refine wok_m (for_do2 (cb := cb) (f := f) (i0 := i0) (v0 := v0) (m := m) (o := G 65 (N - 1)) (ln := 1 + lc T (tk_pos T n i)) (mm := m9') (FA := H9) (F5 := wq_up Fa 0 25 (i9 + 1)) hM hn hc0 hO hn2 hD hBk hkf htD EA.1 EA.2.1 EA.2.2.1 hoff hph (fun k a b => by rw [t32 _ (by have := hph k b; omega) 61 (Or.inr rfl)]; exact h61c k a b) ((k62 _ (by omega)).trans hf) (by omega) ⟨hv, hm1⟩ hc5 hfs (fun x a b => (t32 x b 61 (Or.inr rfl)).trans (hp.2.1 x a b)) (fun j hj => by
      obtain ⟨a1, a2, a3⟩ := hp.2.2 j hj
      rw [t32 (off N + j) (by omega) 60 (Or.inl rfl)]
      exact ⟨a1, Nat.lt_of_lt_of_le a2 t2.1, by rw [t2.2 _ a2]; exact a3⟩) (by omega) ⟨by omega, by omega, by omega, by omega, n9, m6, by omega, by omega, m9, m10, m11, m12⟩ (by omega) hW hL1 hao hok (by omega) rfl (rm_fr_up ffA (by decide) (by decide)) (fun z => ?_) (fun kk z => ?_)) fun r K hK => ?_
  · rw [e214] at z
    by_cases c1 : tk_k T n i9 = 4 ∧ tk_V T n (tk_pos T n i9) = 3
    · rw [if_pos c1] at z p214
      by_cases c2 : i9 = 1500
      · rw [if_pos c2] at z
        have := (Prod.mk.inj (Option.some.inj z)).1
        omega
      · rw [if_neg c2] at p214
        rw [h33, p214, od_bS]
        dsimp only
        rw [if_neg (by decide), ← od_ba, em2, od_bS]
    · rw [if_neg c1] at z
      have := (Prod.mk.inj (Option.some.inj z)).1
      omega
  · have hz0 : dk_214 Hp 3 = some (0, pm_f Hp kk (tk_pos T n i9)) := by
      rw [e214] at z
      by_cases c1 : tk_k T n i9 = 4 ∧ tk_V T n (tk_pos T n i9) = 3
      · rw [if_pos c1] at z p214
        by_cases c2 : i9 = 1500
        · rw [if_pos c2] at z p214
          have z2 := congrArg (fun x => x 0 4) (Prod.mk.inj (Option.some.inj z)).2
          have z3 : (3 : Nat) = kk := by
            have y1 : pm_f Fa 3 (tk_pos T n i9) 0 4 = 3 := pm_f_4
            have y2 : pm_f Fa kk (tk_pos T n i9) 0 4 = kk := pm_f_4
            exact y1.symm.trans (z2.trans y2)
          rw [p214, z3]
        · rw [if_neg c2] at z
          have := (Prod.mk.inj (Option.some.inj z)).1
          omega
      · rw [if_neg c1] at z p214
        have z2 := congrArg (fun x => x 0 4) (Prod.mk.inj (Option.some.inj z)).2
        have z3 : tk_wr T n i9 = kk := by
          have y1 : pm_f Fa (tk_wr T n i9) (tk_pos T n i9) 0 4 = tk_wr T n i9 := pm_f_4
          have y2 : pm_f Fa kk (tk_pos T n i9) 0 4 = kk := pm_f_4
          exact y1.symm.trans (z2.trans y2)
        rw [p214, z3]
    refine rba_f (F := Hp) ?_ fp (by omega)
    rw [h33, hz0, od_bS]
    dsimp only
    rw [if_pos rfl]
  rcases hK with ⟨i', w', s', nw', ns', np', ls', cs', H, K2, eK, gF, rF, cF, bF, pF, ⟨sf, sp, ii, nF⟩, ⟨o1, o2, o3, o4⟩, z1, z2, z3, z4⟩ | ⟨e, p, ho, hx⟩
  rotate_left
  · exact Or.inr ⟨e, p, rgo_o g8 (rm_to_out g9.1 g9.2 (hba9 e p ho)), sx_le hx (by omega)⟩
  have hlv : ∀ g, np ≤ g → ¬ lvl N G g := fun g hg ⟨l, l1, l2⟩ => by have := h62 l l1; omega
  rw [lvl_eq k62, k62 (N - 1) (by omega)] at pF
  have PJ := pj_t EZ.2.2.2.1 pF sf.1 sp hlv (h62 (N - 1) (by omega))
  have gH := hgo9 H gF
  refine Or.inl ⟨i', w', s', nw', ns', np', ls', cs', H, K2, eK, rgo_t g8 ⟨rm_trans g9.1 gH.1, rm_fr_trans g9.2 gH.2⟩, ⟨rF, cF, bF, PJ, ⟨st_sf_trans t1 sf, st_pre_trans t2 sp, ⟨fun l hl => ⟨(o2 l hl).trans (k62 l hl), ?_⟩, fun x hx e6 h6 => (o4 x hx e6 h6).trans (t32 x (by omega) e6 h6)⟩⟩, by omega, nF⟩, by omega, by omega, by omega, by omega, by omega⟩
  by_cases zl : l = N - 1
  · rw [zl]
    exact o1
  · rw [o3 l (by omega)]
    exact (t3.1 l hl).2
end
