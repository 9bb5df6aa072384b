/-! ===== a54: local function (wip/whole2/lawa54.py) ===== -/
theorem dk32_40b {nn x y z : Nat} {F : wq_F} : dk_32 nn F 40 x y z = (dk_30 F 9 x 0 0).bind fun y120 => some (1, y120.2) := by
  rw [(dk32_40 (nn := nn) (F := F) (x := x) (y := y) (z := z)).1, od_bI, (dk32_40 (nn := nn) (F := F) (x := x) (y := y) (z := z)).2]
theorem wq_up_comm {F : wq_F} {c x v d y u : Nat} (h : ¬ (d = c ∧ y = x)) : wq_up (wq_up F c x v) d y u = wq_up (wq_up F d y u) c x v := funext fun e => funext fun j => by
  by_cases z1 : e = d ∧ j = y
  · rw [z1.1, z1.2, wq_up_same, wq_up_ne h, wq_up_same]
  · rw [wq_up_ne z1]
    by_cases z2 : e = c ∧ j = x
    · rw [z2.1, z2.2, wq_up_same, wq_up_same]
    · rw [wq_up_ne z2, wq_up_ne z2, wq_up_ne z1]
theorem pm_em_up {F : wq_F} {c x v op a b ln : Nat} (h1 : ¬ (20 ≤ c ∧ c ≤ 23)) (h2 : ¬ (c = 0 ∧ x = 41)) : pm_em (wq_up F c x v) op a b ln = wq_up (pm_em F op a b ln) c x v := by
  unfold pm_em
  rw [wq_up_ne (show ¬ (0 = c ∧ 41 = x) by omega), wq_up_comm (c := c) (x := x) (v := v) (d := 20) (by omega), wq_up_comm (c := c) (x := x) (v := v) (d := 21) (by omega), wq_up_comm (c := c) (x := x) (v := v) (d := 22) (by omega), wq_up_comm (c := c) (x := x) (v := v) (d := 23) (by omega), wq_up_comm (c := c) (x := x) (v := v) (d := 0) (by omega)]
theorem lf_eq {F : wq_F} {b i0 v0 a : Nat} (h : F 0 50 = b) : kn (em19 v0 1 (pm_em (wq_up F 0 25 a) 1 0 0 0)) b i0 v0 1 = wq_up (pm_em (pm_em (wq_up (wq_up (wq_up F 29 b (F 11 i0)) 30 b v0) 0 50 (b + 1)) 1 0 0 0) 19 v0 0 0) 0 25 a := by
  have e1 : em19 v0 1 (pm_em (wq_up F 0 25 a) 1 0 0 0) = wq_up (pm_em (pm_em F 1 0 0 0) 19 v0 0 0) 0 25 a := by
    show pm_em (pm_em (wq_up F 0 25 a) 1 0 0 0) 19 (v0 + 0) 0 0 = _
    rw [pm_em_up (by omega) (by omega), pm_em_up (by omega) (by omega)]
    rfl
  rw [e1, pm_em_up (by omega) (by omega), pm_em_up (by omega) (by omega), pm_em_up (by omega) (by omega), pm_em_up (by omega) (by omega), pm_em_up (by omega) (by omega), pm_em_up (by omega) (by omega)]
  have c1 : ∀ d j, ¬ (20 ≤ d ∧ d ≤ 23) → ¬ (d = 0 ∧ j = 41) → pm_em (pm_em F 1 0 0 0) 19 v0 0 0 d j = F d j := fun d j x y => by rw [pm_em_ne (by omega) y, pm_em_ne (by omega) y]
  have y50 := (c1 0 50 (by omega) (by omega)).trans h
  have y11 := c1 11 i0 (by omega) (by omega)
  generalize pm_em (pm_em F 1 0 0 0) 19 v0 0 0 = Y at *
  have s := kn_s (F := wq_up Y 0 25 a) (b := b) (i0 := i0) (v0 := v0) (v := 0)
  rw [kn_0 (F := wq_up Y 0 25 a) ((wq_up_at (by decide)).trans y50)] at s
  rw [← s]
  show wq_up (wq_up (wq_up (wq_up Y 0 25 a) 29 b (wq_up Y 0 25 a 11 i0)) 30 b v0) 0 50 (b + 1) = _
  rw [wq_up_cell (show ¬ (11 : Nat) = 0 by decide), y11, wq_up_comm (c := 0) (x := 25) (d := 29) (by omega), wq_up_comm (c := 0) (x := 25) (d := 30) (by omega), wq_up_comm (c := 0) (x := 25) (d := 0) (y := 50) (by omega)]
section
variable {nn : Nat} {T : Nat → Nat} {n M O : Nat} {G0 : wq_F} {c0 : List (List Nat)} {i t w s nw ns np N : Nat} {off voff ph : Nat → Nat} {cx : Nat → List Nat} {c cb : List Nat} {W : List (Nat × Nat × Nat × Nat)} {L : List (Nat × Nat)} {P Q : List (Nat × Nat × Nat)} {ls cs : List (List Nat)} {F G : wq_F}

variable {f v0 : Nat} {Jr0 Jc0 : List Nat}
theorem sx_lf {k d e p B a h h2 : Nat} (hx : sx T n G0 c0 O e p N B G) (hB : B + 2 < 9990) (ha : a ≤ 1200) (hk : 1 ≤ k) (hn : 10000 < nn) : wok ((dk_112 G 1 1 0 1).bind fun y62 => (dk_167 nn y62.2 a h).bind fun y66 => (dk_R nn k 155 [d, 0] y66.2).bind fun y70 => (dk_112 y70.2 6 h2 0 4294967295).bind fun y74 => some (0, y74.2)) (fun _ K => sx T n G0 c0 O e p N (B + 2) K) := by
  refine wok_b (sx_112 hx (by omega)) fun r K hx => ?_
  refine wok_b (sx_167 hx ha hn) fun r K hx => ?_
  refine wok_b (sx_155 hx hk) fun r K hx => ?_
  exact wok_b (sx_112 hx (by omega)) fun r K hx => wok_r hx
theorem loc_func {D k : Nat} (hM : tk_M T n M) (hn : 10000 < nn) (hc0 : c0.length ≤ 1400) (hO : O ≤ 20000) (hD : D ≤ 20) (hBf : B_ok nn T n M G0 c0 O D) (hkf : 20 * (22 - D) + 13 ≤ k) (htD : t = D) (hr : ry T n M i ls t w nw np W L P F) (hc : cy T n G0 c0 O i cs s ns np N Q G) (hb : bz N off voff ph cx c np F ls G cs) (hB : bnd i w s nw ns np t (hg c) W L P Q N) (hW : W.length ≤ 20 * t) (hNt : N ≤ t) (hbo : bo N L F G w s Jr0 Jc0) (hf : G 62 (N - 1) = f) (hv0 : F 14 f = v0) : wok ((dk_124 G).bind fun y54 => (dk_77 nn y54.2).bind fun y58 => (dk_112 y58.2 1 1 0 1).bind fun y62 => (dk_167 nn y62.2 (off N) (hg c)).bind fun y66 => (dk_R nn k 155 [D, 0] y66.2).bind fun y70 => (dk_112 y70.2 6 (hg c) 0 4294967295).bind fun y74 => some (0, y74.2)) (fun _ K => (∃ i' w' s' nw' ns' np' ls' cs' H c' off' voff' ph', rgo nn F (if (F 9 (F 0 25)) = 1 then dk_230_38 nn F else (dk_211 F).bind fun y18 => if y18.1 = 0 then some (0, y18.2) else dk_230_38 nn y18.2) H ∧ ge T n M G0 c0 O N cx cb F G i ls cs w s nw ns np c off voff ph L Jr0 Jc0 t W P Q H K i' ls' cs' w' s' nw' ns' np' c' off' voff' ph' L [] [] ∧ lo N voff c voff' ph' c' K ∧ (i < i' ∧ w' + 6 * i ≤ w + 6 * i' ∧ s' + 4 * i ≤ s + 4 * i' ∧ nw' + i ≤ nw + i' ∧ ns' + i ≤ ns + i') ∧ hg c' + 2 * i ≤ hg c + 2 * i') ∨ ∃ e p, rba nn F (if (F 9 (F 0 25)) = 1 then dk_230_38 nn F else (dk_211 F).bind fun y18 => if y18.1 = 0 then some (0, y18.2) else dk_230_38 nn y18.2) e p ∧ sx T n G0 c0 O e p N (zz D + 95) K) := by
  have hz : 6200 ≤ zz D ∧ zz D < 9800 := by unfold zz; omega
  obtain ⟨m1, m2, m3, m4, m5, m6, m7, m8, m9, m10, m11, m12⟩ := hB
  have hM1 := hM.1
  have hiM := hr.1.2.2.1
  have hN := hb.1.1
  have h62 := hb.2.2.2.2.2.1
  obtain ⟨⟨n1, n2, n3⟩, ⟨n4, n5⟩, n6, ⟨n7, n8⟩, ⟨n9, n10⟩, n11, n12⟩ := nm_n hb m5 hf
  have h57 : G 57 4 = tk_ty T n (tk_pos T n i) := hc.1.2.1.1
  have h41 : F 0 41 = w := hr.2.1.2.1
  have h25 : F 0 25 = i := hr.1.2.1
  have h50 : F 0 50 = voff N := hN.2.2.2.2.2.2.2.1
  have vle : voff N ≤ off N := bz_vle hb
  by_cases q1 : tk_k T n i = 1
  rotate_left
  · obtain ⟨a1, a2⟩ := bt_wr (B := 6200) hM hr hc hb (by omega) (by omega) m5 (by omega)
    have hd : (if (F 9 (F 0 25)) = 1 then dk_230_38 nn F else (dk_211 F).bind fun y18 => if y18.1 = 0 then some (0, y18.2) else dk_230_38 nn y18.2) = some (0, pm_f F (tk_wr T n i) (tk_pos T n i)) := by
      rw [if_neg (fun z => q1 ((pm_kind hr.1).symm.trans z)), a1, od_bS]
      dsimp only
      rw [if_pos rfl]
    refine wok_b (A := fun _ K => sx T n G0 c0 O (tk_wr T n i) (tk_pos T n i) N 6200 K) ?_ fun r K hx => ?_
    · unfold dk_124
      exact wok_f (fun z => q1 (tk_ty_kind.1.mp (h57.symm.trans z))) (wok_b a2 fun r K h => wok_r h)
    · refine wok_b (sx_77 hx) fun r K hx => ?_
      exact wok_m (sx_lf hx (by omega) n11 (by omega) hn) fun r K h => Or.inr ⟨_, _, rba_f hd (rm_fr_refl _) (by omega), sx_le h (by omega)⟩
  obtain ⟨sn, v1, v2, v3⟩ := hc.1.2.2.2.2.1 (Or.inl q1)
  have hsl : cs.length ≤ c0.length + i + 1 := hc.1.2.2.2.2.2.1.2.2.1
  have vr := (hr.1.2.2.2.2.2.1 i (by omega)).2.2.2 (Or.inl q1)
  have hlb := lsb_len hb.2.2.2.2.2.2.2 hr.1.2.2.2.2.2.2
  have hd : (if (F 9 (F 0 25)) = 1 then dk_230_38 nn F else (dk_211 F).bind fun y18 => if y18.1 = 0 then some (0, y18.2) else dk_230_38 nn y18.2) = if v0 < 50 then (dk_212 (pm_em (pm_em (wq_up (wq_up (wq_up (wq_up F 14 f (v0 + 1)) 29 (voff N) (F 11 i)) 30 (voff N) v0) 0 50 (voff N + 1)) 1 0 0 0) 19 v0 0 0)).bind fun y26 => if y26.1 = 0 then some (0, y26.2) else (dk_31 y26.2 40 v0 0 0).bind fun y31 => (dk_31 y31.2 19 0 0 0).bind fun y35 => some (1, y35.2) else some (0, pm_f F 3 (tk_pos T n i)) := by
    rw [if_pos ((pm_kind hr.1).trans q1)]
    unfold dk_230_38
    rw [pm_here hM hr.1, od_bS]
    dsimp only
    rw [dkS_219 (f := f) (by omega) n10 (by omega) (by omega) hr.1.1, hv0]
    by_cases q : v0 < 50
    · rw [if_pos q, if_pos q, od_bS]
      dsimp only
      have e41 : wq_up (wq_up (wq_up (wq_up F 14 f (v0 + 1)) 29 (voff N) (F 11 i)) 30 (voff N) v0) 0 50 (voff N + 1) 0 41 = w := by
        rw [wq_up_at (by decide), wq_up_cell (by decide), wq_up_cell (by decide), wq_up_cell (by decide)]
        exact h41
      rw [if_neg (by omega), od_g1 (by rw [wq_up_cell (by decide), h25]; omega), od_letS, wq_up_cell (by decide), wq_up_cell (by decide), h25, tb_l2i (by omega), dkS_220 (b := voff N) ((wq_up_cell (by decide)).trans h50) (by omega), od_bS]
      dsimp only
      rw [dkS_30 (by rw [e41]; omega), od_bS]
      dsimp only
      rw [dkS_30 (by rw [pm_em_at.2.2.2.2, e41]; omega), od_bS]
    · rw [if_neg q, if_neg q, od_bS]
      dsimp only
      rw [if_pos (by decide)]
  have e1 : dk_124 G = if v0 < 50 then some (0, hd_up G f (off N) sn) else (dk_109 G 3).bind fun y7 => some (0, y7.2) := by
    unfold dk_124
    rw [if_pos (h57.trans (tk_ty_kind.1.mpr q1)), v1, tb_l2i (by omega), dkS_166 (f := f) (a := off N) (by omega) n4 n5 n6 n12 n11 n8, ← n7, hv0]
    by_cases q : v0 < 50
    · rw [if_pos q, if_pos q, od_bS]
      dsimp only
      rw [if_neg (by decide)]
    · rw [if_neg q, if_neg q, od_bS]
      dsimp only
      rw [if_pos rfl]
  generalize (if (F 9 (F 0 25)) = 1 then dk_230_38 nn F else (dk_211 F).bind fun y18 => if y18.1 = 0 then some (0, y18.2) else dk_230_38 nn y18.2) = RF at *
  rw [e1]
  by_cases q : v0 < 50
  rotate_left
  · rw [if_neg q] at hd
    rw [if_neg q]
    refine wok_b (A := fun _ K => sx T n G0 c0 O 3 (tk_pos T n i) N 6200 K) (wok_b (bt_f3 hM hr hc hb (by omega) (by omega) m5 (by omega)).2 fun r K h => wok_r h) fun r K hx => ?_
    refine wok_b (sx_77 hx) fun r K hx => ?_
    exact wok_m (sx_lf hx (by omega) n11 (by omega) hn) fun r K h => Or.inr ⟨_, _, rba_f hd (rm_fr_refl _) (by omega), sx_le h (by omega)⟩
  rw [if_pos q] at hd
  rw [if_pos q, od_bS]
  dsimp only
  have hr1 : ry T n M i ls t w nw np W L P (wq_up F 14 f (v0 + 1)) := ry_up hr (by unfold ry_n; omega)
  have hc1 : cy T n G0 c0 O i cs s ns np N Q (hd_up G f (off N) sn) := cy_up (cy_up (cy_up (cy_up hc (by unfold cy_n; omega)) (by unfold cy_n; omega)) (by unfold cy_n; omega)) (by unfold cy_n; omega)
  have hb1 := bz_hide hb v2 (by rw [hf]; omega)
  rw [hf, hv0] at hb1
  have xg1 : nm_g f (off N) G (hd_up G f (off N) sn) := fun d j q1 q2 q3 q4 q5 => hd_cell q3 (by omega) q5
  have k1 : hd_up G f (off N) sn 61 (off N) = 4294967295 := by
    unfold hd_up
    rw [wq_up_cell (by decide), wq_up_same]
  have k2 : hd_up G f (off N) sn 60 (off N) = sn := by
    unfold hd_up
    rw [wq_up_cell (by decide), wq_up_cell (by decide), wq_up_same]
  have x1 : nm_f f F (wq_up F 14 f (v0 + 1)) := fun d j _ b => wq_up_ne b
  have y1 : wq_up F 14 f (v0 + 1) 14 f = v0 + 1 := wq_up_same _ _ _ _
  have ff1 : rm_fr F (wq_up F 14 f (v0 + 1)) := rm_fr_up (rm_fr_refl _) (by decide) (fun z => absurd z (by decide))
  have y50 : wq_up F 14 f (v0 + 1) 0 50 = voff N := (wq_up_cell (by decide)).trans h50
  have y11 : F 11 i = wq_up F 14 f (v0 + 1) 11 i := (wq_up_cell (by decide)).symm
  rw [y11] at hd
  generalize wq_up F 14 f (v0 + 1) = F1 at *
  generalize hd_up G f (off N) sn = G1 at *
  have feq := fun a => lf_eq (F := F1) (b := voff N) (i0 := i) (v0 := v0) (a := a) y50
  have r4 : ry T n M i ls t (w + 1 + 1) nw np W L P (pm_em (pm_em (wq_up (wq_up (wq_up F1 29 (voff N) (F1 11 i)) 30 (voff N) v0) 0 50 (voff N + 1)) 1 0 0 0) 19 v0 0 0) := ry_em (ry_em (ry_up (ry_up (ry_up hr1 (by unfold ry_n; omega)) (by unfold ry_n; omega)) (by unfold ry_n; omega)))
  have f4 : rm_fr F (pm_em (pm_em (wq_up (wq_up (wq_up F1 29 (voff N) (F1 11 i)) 30 (voff N) v0) 0 50 (voff N + 1)) 1 0 0 0) 19 v0 0 0) := rm_fr_em (rm_fr_em (rm_fr_up (rm_fr_up (rm_fr_up ff1 (by decide) (fun z => absurd z (by decide))) (by decide) (fun z => absurd z (by decide))) (by decide) (by decide)))
  generalize pm_em (pm_em (wq_up (wq_up (wq_up F1 29 (voff N) (F1 11 i)) 30 (voff N) v0) 0 50 (voff N + 1)) 1 0 0 0) 19 v0 0 0 = Fp at *
  rcases pt_take (nn := nn) hM ⟨r4.1, hc1.1⟩ (by omega) (by omega) (by omega) hc0 hO with ⟨K1, ms, a1, a2, a3, a4, a5⟩ | ⟨K1, a1, a2, a3, a4⟩
  rotate_left
  · rw [a1, od_bS] at hd
    dsimp only at hd
    rw [if_pos rfl] at hd
    rw [a2, od_bS]
    dsimp only
    have hx := sx_in (B := 6200) hc1 hb1 a3 a4 (by omega) (by omega) (by omega) m5 (by omega)
    exact wok_m (sx_lf hx (by omega) n11 (by omega) hn) fun r K h => Or.inr ⟨_, _, rba_f hd f4 (by rw [r4.2.1.2.1]; omega), sx_le h (by omega)⟩
  have iM : i < M := a3.1.2.2.1
  rw [a1, od_bS] at hd
  dsimp only at hd
  rw [if_neg (by decide)] at hd
  rw [a2, od_bS]
  dsimp only
  have r2 : ry T n M (i + 1) ls t w nw np W L P (wq_up F1 0 25 (i + 1)) := ry_nx hr1 iM
  have c2 : cy T n G0 c0 O (i + 1) ms s ns np N Q K1 := cy_nx hc1 a3.2 a4
  have b2 : bz N (at_N off N (off N + 1)) voff ph cx c np (wq_up F1 0 25 (i + 1)) ls K1 ms := bz_fu (bz_nx hb1 a4 a5) (by omega)
  have k60 : K1 60 (off N) = sn := (a4 60 _ (by omega) (by omega) (by omega)).trans k2
  have p2 : nq T n N off voff ph cx c np i 1 (wq_up F1 0 25 (i + 1)) ls K1 ms := ⟨b2, fun x a b => by rw [show x = off N by omega]; exact (a4 61 _ (by omega) (by omega) (by omega)).trans k1, fun j hj => by
    rw [show j = 0 by omega]
    refine ⟨q1, ?_, ?_⟩
    · show K1 60 (off N) < ms.length
      rw [k60]
      exact Nat.lt_of_lt_of_le v2 a5.1
    · show ms.getD (K1 60 (off N)) [] = _
      rw [k60, a5.2 _ v2]
      exact v3⟩
  have xf2 : nm_f f F (wq_up F1 0 25 (i + 1)) := fun d j a b => (wq_up_cell a).trans (x1 d j a b)
  have xg2 : nm_g f (off N) G K1 := nm_g_t xg1 (nm_g_fr a4) (Nat.le_refl _)
  have y2 : wq_up F1 0 25 (i + 1) 14 f = v0 + 1 := (wq_up_cell (by decide)).trans y1
  have w2 : wq_up F1 0 25 (i + 1) 0 41 = w := r2.2.1.2.1
  have fe := feq (i + 1)
  generalize wq_up F1 0 25 (i + 1) = F2 at *
  refine wok_b (e_112 (cb := cb) (o := 1) (a := 0) (b := 0) (l := 0) (op := 1) (x := 1) (l' := 0) (by' := 1) (d := 0 :: c) r2 c2 b2 m5 (by omega) (by rw [hg_0]; omega) (fun k _ _ z => cx_at_c z) (fun e he => ?_) (fun H J nm h1 h2 _ => Or.inl ⟨1, h1.1, h2.1, h2.2.1, rfl⟩)) fun r3 K3 h3 => ?_
  · rcases List.mem_cons.mp he with z | z
    · rw [z]
      omega
    · exact bz_fr b2 e z
  dsimp only
  obtain ⟨E3, _⟩ := h3
  obtain ⟨H, K, ph', d34, d167, ff5, GE, LO⟩ := loc_done (nn := nn) (v := 1) (i := i) (w := w) (s := s) (i0 := i) (i1 := i + 1) (cb := cb) hM hn hb m5 hbo hf hv0 p2 y2 a5 xf2 xg2 (by omega) (by omega) E3 (by omega) (by omega)
  rw [d167, od_bS]
  dsimp only
  have dk := dkL_231 (nn := nn) (i0 := i) (cnt := 1) (v0 := v0) 1 nn (pm_em F2 1 0 0 0) (by omega) (by omega) (by rw [pm_em_at.2.2.2.2, w2]; omega) (by omega)
  have hH : H = wq_up Fp 0 25 (i + 1) := by
    have d63 := dkL_63 (nn := nn) (i0 := i) (cnt := 1) (v0 := v0) (b := voff N) (F := em19 v0 1 (pm_em F2 1 0 0 0)) (by omega) (by omega) (by omega) (fun j hj => by
      rw [em19_c (by omega) (by omega), pm_em_ne (by omega) (by omega), show j = 0 by omega]
      have z := (r2.1.2.2.2.2.2.1 i (by omega)).2.2.2 (Or.inl q1)
      have := z.1
      show F2 11 i < _
      omega) nn 0 (Nat.zero_le _) (by omega)
    rw [kn_0 (by rw [em19_c (by omega) (by omega), pm_em_ne (by omega) (by omega)]; exact b2.1.1.2.2.2.2.2.2.2.1)] at d63
    have z := d34.symm.trans (dk.trans d63)
    have z2 := congrArg Prod.snd (Option.some.inj z)
    exact z2.trans fe
  rw [← hH] at hd
  have GEr := GE.1
  have GEc := GE.2.1
  have GEb := GE.2.2.1
  have n7' : np ≤ 50 := m5
  have e4 := e_la (cb := cb) (x1 := 40) (x2 := v0) (x3 := 0) (x4 := 0) GEr GEc GEb m5
  have e5 := e_la (cb := cb) (x1 := 19) (x2 := 0) (x3 := 0) (x4 := 0) e4.1 e4.2.1 e4.2.2.1 m5
  have h62H := GEb.2.2.2.2.2.1
  have E5 := eg_t e4 e5 h62H
  rw [dkS_31 (by rw [GEr.2.2.1.1]; omega), od_bS] at hd
  dsimp only at hd
  rw [dkS_31 (by rw [e4.1.2.2.1.1]; show W.length + 1 < 4000; omega), od_bS] at hd
  have ff6 : rm_fr F H := by
    rw [hH]
    exact rm_fr_up f4 (by decide) (by decide)
  have ff7 : rm_fr F (pm_la (pm_la H 40 v0 0 0) 19 0 0 0) := rm_fr_la (rm_fr_la ff6)
  generalize pm_la (pm_la H 40 v0 0 0) 19 0 0 0 = F7 at *
  have g7 : rgo nn F RF F7 := rgo_i hd (by decide) E5.1.1.1 ff7
  have hg1 : hg (lcs v0 1 ++ c) = hg c + 1 := by rw [hg_app, hg_lcs]; omega
  refine wok_b (hBf k 0 (i + 1) t (w + 1 + 1) (s + 1) nw ns np N _ _ ph' cx (lcs v0 1 ++ c) cb ((40, v0, 0, 0) :: W) L P Q ls ms F7 K (by omega) htD (by omega) E5.1 E5.2.1 E5.2.2.1 ⟨by omega, by omega, by omega, by omega, m5, m6, by omega, by show W.length + 1 ≤ _; omega, m9, m10, m11, m12⟩ (by show W.length + 1 ≤ _; omega) hNt) fun r8 K8 h8 => ?_
  dsimp only
  rcases h8 with ⟨i8, w8, s8, nw8, ns8, np8, ls8, cs8, H8, g8, E8, ⟨u1, u2, u3, u4, u5⟩, _⟩ | ⟨e, p, ho, hx⟩
  rotate_left
  · refine wok_b (sx_112 hx (by omega)) fun r K h => wok_r ?_
    exact Or.inr ⟨e, p, rgo_o g7 ho, sx_le h (by omega)⟩
  have i8M := E8.1.1.2.2.1
  have n8' : np8 ≤ 50 := E8.2.2.2.2.2.2
  have hgoA := fun H => ry_go (nn := nn) (H := H) E8.1 (by show W.length < 4000; omega)
  have ep := e_pop (cb := cb) E8.1 E8.2.1 E8.2.2.1 n8'
  have fp : rm_fr H8 (wq_up H8 0 46 W.length) := rm_fr_up (rm_fr_refl _) (by decide) (by decide)
  have h33 : dk_32 nn (wq_up H8 0 46 W.length) (40, v0, 0, 0).1 (40, v0, 0, 0).2.1 (40, v0, 0, 0).2.2.1 (40, v0, 0, 0).2.2.2 = (dk_30 (wq_up H8 0 46 W.length) 9 v0 0 0).bind fun y120 => some (1, y120.2) := by
    show dk_32 nn (wq_up H8 0 46 W.length) 40 v0 0 0 = _
    rw [dk32_40b]
  generalize dk_32 nn (wq_up H8 0 46 W.length) (40, v0, 0, 0).1 (40, v0, 0, 0).2.1 (40, v0, 0, 0).2.2.1 (40, v0, 0, 0).2.2.2 = mm at *
  generalize wq_up H8 0 46 W.length = Hp at *
  have wp : Hp 0 41 = w8 := ep.1.2.1.2.1
  rw [dkS_30 (by omega), od_bS] at h33
  have ff9 : rm_fr H8 (pm_em Hp 9 v0 0 0) := rm_fr_em fp
  refine wok_b (e_112 (cb := cb) (o := 9) (a := v0) (b := 0) (l := 0) (op := 6) (x := hg c) (l' := 0) (by' := 4294967295) (d := lcs v0 1 ++ c) ep.1 ep.2.1 ep.2.2.1 n8' (by omega) (by rw [hg_0]; omega) (fun k _ _ z => cx_at_dn (a := [0]) (fun e he => by rw [List.mem_singleton.mp he]; decide) z) (bz_cd (a := [0]) ep.2.2.1 rfl) (fun H J nm h1 h2 _ => Or.inl ⟨8, h1.1, h2.1, lcs v0 1 ++ c, rfl, ⟨[], c, by rw [h1.2.1]; rfl, h2.2.1.symm⟩, rfl⟩)) fun r9 K9 h9 => ?_
  refine wok_r ?_
  dsimp only
  obtain ⟨E9, _⟩ := h9
  have g9 := hgoA _ (rgo_i h33 (by decide) E9.1.1.1 ff9)
  have GEA := ge_x GE (eg_t E5 (eg_t E8 (eg_t ep E9 E8.2.2.1.2.2.2.2.2.1) E5.2.2.1.2.2.2.2.2.1) h62H) h62
  refine Or.inl ⟨i8, w8 + 1, s8 + 1, nw8, ns8, np8, ls8, cs8, pm_em Hp 9 v0 0 0, lcs v0 1 ++ c, _, _, ph', rgo_t g7 ⟨rm_trans g8.1 g9.1, rm_fr_trans g8.2 g9.2⟩, GEA, lo_k (H := H) LO (fun k hk => ?_), ⟨by omega, by omega, by omega, by omega, by omega⟩, by omega⟩
  have p1 := (GEb.1.2.2.1 k hk).1
  rw [E9.2.2.2.2.1.2.2.2 _ (by exact p1) 61 (Or.inr rfl), ep.2.2.2.2.1.2.2.2 _ (by exact p1) 61 (Or.inr rfl), E8.2.2.2.2.1.2.2.2 _ (by exact p1) 61 (Or.inr rfl), E5.2.2.2.2.1.2.2.2 _ (by exact p1) 61 (Or.inr rfl)]
end
