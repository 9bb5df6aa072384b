/-! ===== a13: links of a chain: . and [ ] (wip/whole2/lawa13.py) ===== -/
section
variable {nn : Nat} {T : Nat → Nat} {n M O : Nat} {G0 : wq_F} {c0 : List (List Nat)} {i t w s nw ns np N : Nat} {off voff ph : Nat → Nat} {cx : Nat → List Nat} {c cb : List Nat} {W : List (Nat × Nat × Nat × Nat)} {L : List (Nat × Nat)} {P Q : List (Nat × Nat × Nat)} {ls cs : List (List Nat)} {F G : wq_F}
variable {i0 w0 s0 nw0 ns0 np0 : Nat} {ls0 cs0 : List (List Nat)} {A B : wq_F} {c' : List Nat}

theorem cal_0 {H K H' : wq_F} {e : Nat} {d : List Nat} (h : cal cb N A B w0 s0 nw0 ns0 np0 c H K ls cs w s nw ns np e d) (h0 : ∀ d j, ¬ d = 0 → H' d j = H d j) (h62 : ∀ l, l < N → B 62 l < np0) (hN : 1 ≤ N) : cal cb N A B w0 s0 nw0 ns0 np0 c H' K ls cs w s nw ns np e d := by
  unfold cal at *
  refine pj_t h (pj_n (fun d j q => ?_) (fun d j q => rfl)) (st_pre_refl _) (st_pre_refl _) (fun g hg ⟨l, l1, l2⟩ => by have := h62 l l1; omega) (h62 (N - 1) (by omega))
  by_cases z : d = 21 ∧ j = w - 1
  · rw [z.1, z.2, wq_up_same, wq_up_same]
  · rw [wq_up_ne z, wq_up_ne z]
    exact h0 d j (by omega)
theorem tlr_0 {H K H' : wq_F} (h : tlr cb N A B w0 s0 nw0 ns0 np0 c H K ls cs w s nw ns np c') (h0 : ∀ d j, ¬ d = 0 → H' d j = H d j) (h1 : H' 0 61 = H 0 61 ∧ H' 0 62 = H 0 62 ∧ H' 0 63 = H 0 63) (h62 : ∀ l, l < N → B 62 l < np0) (hN : 1 ≤ N) : tlr cb N A B w0 s0 nw0 ns0 np0 c H' K ls cs w s nw ns np c' := by
  obtain ⟨a1, a2, a3⟩ := h1
  unfold tlr at *
  rw [a1, a2, a3, h0 15 _ (by decide)]
  rcases h with z | z | z | z | ⟨z1, z2, z3, z4, z5, z6, z7, z8⟩ | z
  · exact Or.inl z
  · exact Or.inr (Or.inl z)
  · exact Or.inr (Or.inr (Or.inl z))
  · exact Or.inr (Or.inr (Or.inr (Or.inl z)))
  · exact Or.inr (Or.inr (Or.inr (Or.inr (Or.inl ⟨z1, z2, z3, z4, z5, z6, cal_0 z7 h0 h62 hN, cal_0 z8 h0 h62 hN⟩))))
  · exact Or.inr (Or.inr (Or.inr (Or.inr (Or.inr z))))
/-- the wait for a link taken, what the chain ends with read -/
theorem link_in (hM : tk_M T n M) (h : eg T n M G0 c0 O N off voff ph cx cb A B i0 ls0 cs0 w0 s0 nw0 ns0 np0 c t ((8, 0, 0, 0) :: W) L P Q F G i ls cs w s nw ns np c') (ht : tlr cb N A B w0 s0 nw0 ns0 np0 c F G ls cs w s nw ns np c') (h62 : ∀ l, l < N → B 62 l < np0) (hw : w < 13980) (hs : s < 9980) (hh : hg c < 100000) :
    ∃ F1, dk_223 (wq_up F 0 46 W.length) = some (0, F1) ∧ rm_fr F F1 ∧ wok (dk_136 G) (fun _ K => ∃ w1 s1, eg T n M G0 c0 O N off voff ph cx cb A B i0 ls0 cs0 w0 s0 nw0 ns0 np0 c t W L P Q F1 K i ls cs w1 s1 nw ns np (0 :: c) ∧ w ≤ w1 ∧ w1 ≤ w + 1 ∧ s ≤ s1 ∧ s1 ≤ s + 1 ∧ K 56 7 = 4294967295) := by
  have hN := h.2.2.1.1.1.1
  have h0 : ∀ d j, ¬ d = 0 → wq_up F 0 46 W.length d j = F d j := fun d j q => wq_up_cell q
  have hr : ∀ j, ¬ j = 46 → wq_up F 0 46 W.length 0 j = F 0 j := fun j q => wq_up_at q
  have h1 := eg_0 h (ry_pop h.1) h0 ⟨hr 50 (by decide), hr 53 (by decide)⟩ h62
  have t1 := tlr_0 ht h0 ⟨hr 61 (by decide), hr 62 (by decide), hr 63 (by decide)⟩ h62 hN
  obtain ⟨F1, a1, a2, a3⟩ := dis_step h1 t1 h62 (by omega) (by omega) hh
  exact ⟨F1, a1, rm_fr_trans (rm_fr_up (rm_fr_refl _) (by decide) (by decide)) a2, a3⟩
/-- the reference at a link -/
theorem rS (hM : tk_M T n M) (hr : ry T n M i ls t w nw np W L P F) : dk_245 F = if tk_k T n i = 5 ∧ tk_V T n (tk_pos T n i) = 46 then (dk_223 F).bind fun y110 => (dk_212 y110.2).bind fun y114 => if y114.1 = 0 then some (0, y114.2) else od_g (y114.2 0 25 < 1502) <| if (y114.2 9 (y114.2 0 25)) = 1 then od_g (y114.2 0 25 < 1502) <| od_let (18446744073709551616 + y114.2 11 (y114.2 0 25)) fun y122 => (dk_30 y114.2 5 (ev_oL2i y122) 0 0).bind fun y125 => od_up y125.2 0 61 3 fun F129 => od_up F129 0 63 (1 + lc T (tk_pos T n i)) fun F132 => (dk_31 F132 8 0 0 0).bind fun y135 => dk_212 y135.2 else dk_211 y114.2
    else if tk_k T n i = 5 ∧ tk_V T n (tk_pos T n i) = 91 then (dk_223 F).bind fun y94 => (dk_31 y94.2 10 (1 + lc T (tk_pos T n i)) 0 0).bind fun y98 => (dk_31 y98.2 3 0 0 0).bind fun y102 => dk_212 y102.2
    else if tk_k T n i = 5 ∧ tk_V T n (tk_pos T n i) = 58 then (dk_223 F).bind fun y37 => (dk_212 y37.2).bind fun y41 => if y41.1 = 0 then some (0, y41.2) else od_g (y41.2 0 25 < 1502) <| if (y41.2 9 (y41.2 0 25)) = 1 then (dk_30 y41.2 45 0 0 0).bind fun y48 => od_g (y48.2 0 25 < 1502) <| od_let (18446744073709551616 + y48.2 11 (y48.2 0 25)) fun y53 => (dk_30 y48.2 5 (ev_oL2i y53) 0 0).bind fun y56 => (dk_30 y56.2 12 0 0 (1 + lc T (tk_pos T n i))).bind fun y60 => (dk_30 y60.2 46 0 0 0).bind fun y64 => (dk_30 y64.2 15 0 0 0).bind fun y68 => (dk_212 y68.2).bind fun y72 => if y72.1 = 0 then some (0, y72.2) else (dk_244 y72.2).bind fun y77 => if y77.1 = 0 then dk_211 y77.2 else dk_246 y77.2 else dk_211 y41.2
    else (dk_244 F).bind fun y20 => if y20.1 = 0 then some (1, y20.2) else (dk_223 y20.2).bind fun y25 => (dk_30 y25.2 14 0 0 0).bind fun y29 => dk_246 y29.2 := by
  unfold dk_245
  rw [pm_line hM hr.1, od_bS]
  dsimp only
  rw [pm_isSign hM hr.1 (by decide), od_bS]
  dsimp only
  rw [if_ck]
  by_cases q1 : tk_k T n i = 5 ∧ tk_V T n (tk_pos T n i) = 46
  · rw [if_pos q1, if_pos q1]
    simp only [od_bI]
  rw [if_neg q1, if_neg q1, pm_isSign hM hr.1 (by decide), od_bS]
  dsimp only
  rw [if_ck]
  by_cases q2 : tk_k T n i = 5 ∧ tk_V T n (tk_pos T n i) = 91
  · rw [if_pos q2, if_pos q2]
    simp only [od_bI]
  rw [if_neg q2, if_neg q2, pm_isSign hM hr.1 (by decide), od_bS]
  dsimp only
  rw [if_ck]
  by_cases q3 : tk_k T n i = 5 ∧ tk_V T n (tk_pos T n i) = 58
  · rw [if_pos q3, if_pos q3]
    simp only [od_bI]
  rw [if_neg q3, if_neg q3]
  simp only [od_bI]
/-- . name -/
theorem link_dot {D : Nat} (hM : tk_M T n M) (h : eg T n M G0 c0 O N off voff ph cx cb A B i0 ls0 cs0 w0 s0 nw0 ns0 np0 c t ((8, 0, 0, 0) :: W) L P Q F G i ls cs w s nw ns np c') (ht : tlr cb N A B w0 s0 nw0 ns0 np0 c F G ls cs w s nw ns np c') (h62 : ∀ l, l < N → B 62 l < np0) (hn : 10000 < nn) (hc0 : c0.length ≤ 1400) (hO : O ≤ 20000) (hB : bnd i w s nw ns np t (hg c) ((8, 0, 0, 0) :: W) L P Q N) (hW : W.length ≤ 20 * t + 6) (htD : t = D) (hD : D ≤ 20) (hk : tk_k T n i = 5 ∧ tk_V T n (tk_pos T n i) = 46) : wok ((dk_134 nn G).bind fun y126 => some (1, y126.2)) (fun r K => (∃ i' w' s' nw' ns' np' ls' cs' H c'', r = 1 ∧ (rm_to nn F H ∧ rm_fr F H) ∧ eg T n M G0 c0 O N off voff ph cx cb A B i0 ls0 cs0 w0 s0 nw0 ns0 np0 c t ((8, 0, 0, 0) :: W) L P Q H K i' ls' cs' w' s' nw' ns' np' c'' ∧ tlr cb N A B w0 s0 nw0 ns0 np0 c H K ls' cs' w' s' nw' ns' np' c'' ∧ rts i w s nw ns i' w' s' nw' ns') ∨ (∃ e p, r = 1 ∧ rm_out nn e p F ∧ sx T n G0 c0 O e p N (zz t + 50) K)) := by
  subst htD
  have hB0 := hB
  obtain ⟨m1, m2, m3, m4, m5, m6, m7, m8, m9, m10, m11, m12⟩ := hB0
  have hM1 := hM.1
  have hiM := h.1.1.2.2.1
  have hN := h.2.2.1.1.1.1
  have hz : 6310 ≤ zz t ∧ zz t < 9800 := by unfold zz; omega
  have hln : G 57 6 = 1 + lc T (tk_pos T n i) := h.2.1.1.2.1.2.2.1
  obtain ⟨F1, d1, f1, w1⟩ := link_in hM h ht h62 (by omega) (by omega) (by omega)
  have hgo := fun H => ry_go (nn := nn) (H := H) h.1 (by show W.length < 4000; omega)
  have hba := fun k p => ry_ba (nn := nn) (k := k) (p := p) h.1 (by show W.length < 4000; omega)
  have h33 : dk_32 nn (wq_up F 0 46 W.length) (8, 0, 0, 0).1 (8, 0, 0, 0).2.1 (8, 0, 0, 0).2.2.1 (8, 0, 0, 0).2.2.2 = dk_245 (wq_up F 0 46 W.length) := by
    show dk_32 nn (wq_up F 0 46 W.length) 8 0 0 0 = _
    rw [dk32_8, od_bI]
  have hd := h33.trans (rS hM (ry_pop h.1))
  rw [if_pos hk, d1, od_bS] at hd
  dsimp only at hd
  generalize dk_32 nn (wq_up F 0 46 W.length) (8, 0, 0, 0).1 (8, 0, 0, 0).2.1 (8, 0, 0, 0).2.2.1 (8, 0, 0, 0).2.2.2 = mm at *
  have tl : ∀ (e p B' v : Nat) (K : wq_F), sx T n G0 c0 O e p N B' K → B' ≤ 6210 → rm_out nn e p F → wok (od_up K 56 7 11 fun F17 => (dk_84 F17).bind fun y20 => od_let ((y20.1 + (4294967296 - 2)) % 4294967296) fun y24 => od_up y20.2 56 8 y24 fun F27 => od_up F27 56 9 v fun F30 => some (0, F30)) (fun _ K => ∃ e p, rm_out nn e p F ∧ sx T n G0 c0 O e p N (zz t + 50) K) := fun e p B' v K hx hB' ho => by
    refine wok_u (wok_b (sx_84 (sx_up hx (by omega))) fun r K h => ?_)
    exact wok_l (wok_u (wok_u (wok_r ⟨e, p, ho, sx_le (sx_up (sx_up h (by omega)) (by omega)) (by omega)⟩)))
  have LKs : ∀ (m : Option (Nat × wq_F)), wok m (fun _ K => ∃ e p, rm_out nn e p F ∧ sx T n G0 c0 O e p N (zz t + 50) K) → wok (m.bind fun y126 => some (1, y126.2)) (fun r K => (∃ i' w' s' nw' ns' np' ls' cs' H c'', r = 1 ∧ (rm_to nn F H ∧ rm_fr F H) ∧ eg T n M G0 c0 O N off voff ph cx cb A B i0 ls0 cs0 w0 s0 nw0 ns0 np0 c t ((8, 0, 0, 0) :: W) L P Q H K i' ls' cs' w' s' nw' ns' np' c'' ∧ tlr cb N A B w0 s0 nw0 ns0 np0 c H K ls' cs' w' s' nw' ns' np' c'' ∧ rts i w s nw ns i' w' s' nw' ns') ∨ (∃ e p, r = 1 ∧ rm_out nn e p F ∧ sx T n G0 c0 O e p N (zz t + 50) K)) := fun m hm => wok_b hm fun r K ⟨e, p, ho, hx⟩ => wok_r (Or.inr ⟨e, p, rfl, ho, hx⟩)
  have main : wok (dk_134 nn G) (fun _ K => (∃ i' w' s' nw' ns' np' ls' cs' H c'', (rm_to nn F H ∧ rm_fr F H) ∧ eg T n M G0 c0 O N off voff ph cx cb A B i0 ls0 cs0 w0 s0 nw0 ns0 np0 c t ((8, 0, 0, 0) :: W) L P Q H K i' ls' cs' w' s' nw' ns' np' c'' ∧ tlr cb N A B w0 s0 nw0 ns0 np0 c H K ls' cs' w' s' nw' ns' np' c'' ∧ rts i w s nw ns i' w' s' nw' ns') ∨ ∃ e p, rm_out nn e p F ∧ sx T n G0 c0 O e p N (zz t + 50) K) := by
    unfold dk_134
    refine wok_b w1 fun r1 K1 h1 => ?_
    dsimp only
    obtain ⟨wa, sa, e1, u1, u2, u3, u4, _⟩ := h1
    have k6 : K1 57 6 = 1 + lc T (tk_pos T n i) := e1.2.1.1.2.1.2.2.1
    refine wok_b (bt_77 (B := 6200) hM e1.1 e1.2.1 e1.2.2.1 (by omega) (by omega) (by omega) hc0 hO (by omega) (by omega) m5 (by omega)) fun r2 K2 h2 => ?_
    dsimp only
    rcases h2 with ⟨iM, e2, ms, c2, b2, f2, p2⟩ | ⟨e2, hx⟩
    · rw [e2, od_bS] at hd
      dsimp only at hd
      rw [if_neg (by decide)] at hd
      have hr2 := ry_nx e1.1 iM
      have b2' : bz N off voff ph cx (0 :: c) np (wq_up F1 0 25 (i + 1)) ls K2 ms := bz_fu b2 (by omega)
      have ff2 : rm_fr F (wq_up F1 0 25 (i + 1)) := rm_fr_up f1 (by decide) (by decide)
      have eg2 := eg_t e1 (eg_n (cb := cb) hr2 c2 b2' (fun d j q => wq_up_cell (by omega)) (qf_fr f2) p2 (Nat.le_succ _) m5) h62
      rw [od_g1 (pm_b hM hr2.1)] at hd
      have hkd := pm_kind hr2.1
      generalize wq_up F1 0 25 (i + 1) = F2 at *
      have hw2 : F2 0 41 = wa := hr2.2.1.2.1
      have h46 : F2 0 46 = W.length := hr2.2.2.1.1
      have k57 : K2 57 4 = tk_ty T n (tk_pos T n (i + 1)) := c2.1.2.1.1
      by_cases q1 : tk_k T n (i + 1) = 1
      · rw [if_pos (hkd.trans q1), od_g1 (pm_b hM hr2.1), od_letS, dkS_30 (by omega), od_bS] at hd
        dsimp only at hd
        rw [od_upS, od_upS, dkS_31 (by rw [wq_up_at (by decide), wq_up_at (by decide), pm_em_ne (by omega) (by omega)]; omega), od_bS] at hd
        dsimp only at hd
        obtain ⟨sn, v1, v2, v3⟩ := c2.1.2.2.2.2.1 (Or.inl q1)
        have hsl : ms.length ≤ c0.length + (i + 1) + 1 := c2.1.2.2.2.2.2.1.2.2.1
        have vr := (hr2.1.2.2.2.2.2.1 (i + 1) (by omega)).2.2.2 (Or.inl q1)
        have hlb := lsb_len b2'.2.2.2.2.2.2.2 hr2.1.2.2.2.2.2.2
        have v11 : ev_oL2i (18446744073709551616 + F2 11 (F2 0 25)) = F2 11 (i + 1) := by
          rw [hr2.1.2.1]
          exact tb_l2i (by omega)
        rw [v11] at hd
        have hat := pm_em_at (F := F2) (op := 5) (a := F2 11 (i + 1)) (b := 0) (ln := 0)
        rw [hw2] at hat
        have hr3 : ry T n M (i + 1) ls t (wa + 1) nw np ((8, 0, 0, 0) :: W) L P (pm_la (wq_up (wq_up (pm_em F2 5 (F2 11 (i + 1)) 0 0) 0 61 3) 0 63 (1 + lc T (tk_pos T n i))) 8 0 0 0) := ry_la (ry_up (ry_up (ry_em hr2) (by unfold ry_n; omega)) (by unfold ry_n; omega))
        have b3F := bz_la (k := 8) (x := 0) (y := 0) (z := 0) (bz_fu (d := 0) (j := 63) (v := 1 + lc T (tk_pos T n i)) (bz_fu (d := 0) (j := 61) (v := 3) (bz_em (op := 5) (a := F2 11 (i + 1)) (b := 0) (ln := 0) b2') (by omega)) (by omega))
        have ff3 : rm_fr F (pm_la (wq_up (wq_up (pm_em F2 5 (F2 11 (i + 1)) 0 0) 0 61 3) 0 63 (1 + lc T (tk_pos T n i))) 8 0 0 0) := rm_fr_la (rm_fr_up (rm_fr_up (rm_fr_em ff2) (by decide) (by decide)) (by decide) (by decide))
        have x3 : ∀ d j, 12 ≤ d ∧ d ≤ 24 → pm_la (wq_up (wq_up (pm_em F2 5 (F2 11 (i + 1)) 0 0) 0 61 3) 0 63 (1 + lc T (tk_pos T n i))) 8 0 0 0 d j = pm_em F2 5 (F2 11 (i + 1)) 0 0 d j := fun d j q => by
          rw [pm_la_ne (by omega) (by omega), wq_up_cell (by omega), wq_up_cell (by omega)]
        have y3 : pm_la (wq_up (wq_up (pm_em F2 5 (F2 11 (i + 1)) 0 0) 0 61 3) 0 63 (1 + lc T (tk_pos T n i))) 8 0 0 0 0 61 = 3 ∧ pm_la (wq_up (wq_up (pm_em F2 5 (F2 11 (i + 1)) 0 0) 0 61 3) 0 63 (1 + lc T (tk_pos T n i))) 8 0 0 0 0 63 = 1 + lc T (tk_pos T n i) := ⟨by rw [pm_la_ne (by omega) (by omega), wq_up_at (by decide), wq_up_same], by rw [pm_la_ne (by omega) (by omega), wq_up_same]⟩
        generalize pm_la (wq_up (wq_up (pm_em F2 5 (F2 11 (i + 1)) 0 0) 0 61 3) 0 63 (1 + lc T (tk_pos T n i))) 8 0 0 0 = F3 at *
        have t135 : wok (dk_135 K2) (fun _ K => cy T n G0 c0 O (i + 1) ms (sa + 1) ns np N Q K ∧ bz N off voff ph cx (0 :: 0 :: c) np F3 ls K ms ∧ cI K sa 4 sn 0 (K2 57 6) ∧ qf sa ns K2 K ∧ ∀ j, K 56 j = K2 56 j) := by
          unfold dk_135
          refine wok_t (k57.trans (tk_ty_kind.1.mpr q1)) ?_
          rw [v1, tb_l2i (show sn < 4294967296 by omega)]
          exact wok_b (cy_p1 (e := 0) c2 b3F (by omega) (by rw [hg_0]; omega) (by decide)) fun r K h => wok_r h
        refine wok_b t135 fun r3 K3 h3 => ?_
        dsimp only
        obtain ⟨c3, b3, i3, q3, _⟩ := h3
        refine wok_b (bt_77 (B := 6210) hM hr3 c3 b3 (by omega) (by omega) (by omega) hc0 hO (by omega) (by omega) m5 (by omega)) fun r4 K4 h4 => ?_
        dsimp only
        rcases h4 with ⟨iM4, e4, ms4, c4, b4, f4, p4⟩ | ⟨e4, hx⟩
        · have hr4 := ry_nx hr3 iM4
          have b4' : bz N off voff ph cx (0 :: 0 :: c) np (wq_up F3 0 25 (i + 1 + 1)) ls K4 ms4 := bz_fu b4 (by omega)
          have q4 : qf (sa + 1) ns K3 K4 := qf_fr f4
          have g4 := hgo _ (rgo_i (hd.trans e4) (by decide) hr4.1.1 (rm_fr_up ff3 (by decide) (by decide)))
          have c5 := cy_up (c := 56) (j := 7) (v := 11) c4 (by unfold cy_n; omega)
          have b5 := bz_gu (d := 56) (j := 7) (v := 11) b4' (by omega)
          refine wok_u ?_
          rw [cy_84 c5 b5, od_bS]
          dsimp only
          rw [hg_0, hg_0, show (hg c + 1 + 1 + (4294967296 - 2)) % 4294967296 = hg c by omega]
          have x4 : ∀ d j, ¬ d = 56 → wq_up (wq_up (wq_up K4 56 7 11) 56 8 (hg c)) 56 9 (K1 57 6) d j = K4 d j := fun d j q => by rw [wq_up_cell q, wq_up_cell q, wq_up_cell q]
          have q5 : qf (sa + 1) ns K3 (wq_up (wq_up (wq_up K4 56 7 11) 56 8 (hg c)) 56 9 (K1 57 6)) := fun d j q => (x4 d j (by omega)).trans (q4 d j q)
          refine wok_l (wok_u (wok_u (wok_r (Or.inl ⟨i + 1 + 1, wa + 1, sa + 1, nw, ns, np, ls, ms4, wq_up F3 0 25 (i + 1 + 1), 0 :: 0 :: c, g4, eg_t eg2 (⟨hr4, cy_up (cy_up c5 (by unfold cy_n; omega)) (by unfold cy_n; omega), bz_gu (bz_gu b5 (by omega)) (by omega), ?_, ⟨st_sf_refl _, p4, ⟨fun l _ => ⟨(q5 62 l (by omega)).trans (q3 62 l (by omega)), (q5 65 l (by omega)).trans (q3 65 l (by omega))⟩, fun l _ e6 h6 => (q5 e6 l (by omega)).trans (q3 e6 l (by omega))⟩⟩, Nat.le_succ _, m5⟩) h62, Or.inr (Or.inr (Or.inr (Or.inl ⟨?_, ?_, rfl, ?_, ?_⟩))), ⟨by omega, by omega, by omega, by omega, by omega⟩⟩))))
          · refine pj_1 ⟨by omega, by omega, by omega, by omega⟩ (fun d j q => by rw [wq_up_cell (by omega), x3 d j (by omega), pm_em_ne (by omega) (by omega)]) (fun d j q => (q5 d j (by omega)).trans (q3 d j (by omega))) (fun H J nm ha2 hb2 hnm => Or.inl ⟨4, ?_, ?_, ?_, rfl⟩)
            · rw [ha2.1 20 wa (by decide) (by decide) (by omega) (by omega), wq_up_cell (by decide), x3 20 wa (by decide)]; exact hat.1
            · rw [hb2.1 12 sa (by decide) (by decide) (by omega) (by omega), q5 12 sa (by omega)]; exact i3.1
            · rw [ha2.1 21 wa (by decide) (by decide) (by omega) (by omega), wq_up_cell (by decide), x3 21 wa (by decide), hat.2.1, hb2.1 13 sa (by decide) (by decide) (by omega) (by omega), q5 13 sa (by omega), i3.2.1]
              exact nmr_up hnm (st_pre_refl _) p4 _ _ vr.1 v2 (vr.2.1.trans v3.symm)
          · rw [wq_up_at (by decide)]; exact y3.1
          · rw [wq_up_at (by decide), wq_up_at (by decide), wq_up_same]
          · rw [wq_up_at (by decide), wq_up_same]
          · rw [wq_up_at (by decide), y3.2, wq_up_same, k6]
        · exact wok_m (tl _ _ _ _ _ hx (by decide) (hba _ _ (rba_f (hd.trans e4) ff3 (by rw [hr3.2.1.2.1]; omega)))) fun r K h => Or.inr h
      · rw [if_neg (fun z => q1 (hkd.symm.trans z)), pm_wrong hM hr2.1] at hd
        have ho := hba _ _ (rba_f hd ff2 (by rw [hr2.2.1.2.1]; omega))
        have t135 : wok (dk_135 K2) (fun _ K => sx T n G0 c0 O (tk_wr T n (i + 1)) (tk_pos T n (i + 1)) N 6200 K) := by
          unfold dk_135
          refine wok_f (fun z => q1 (tk_ty_kind.1.mp (k57.symm.trans z))) ?_
          exact wok_b (bt_wr (B := 6200) hM hr2 c2 b2' (by omega) (by omega) m5 (by omega)).2 fun r K h => wok_r h
        refine wok_b t135 fun r3 K3 h3 => ?_
        refine wok_b (sx_77 h3) fun r4 K4 h4 => ?_
        exact wok_m (tl _ _ _ _ _ h4 (by decide) ho) fun r K h => Or.inr h
    · rw [e2, od_bS] at hd
      have ho := hba _ _ (rba_f (hd.trans (if_pos rfl)) f1 (by rw [e1.1.2.1.2.1]; omega))
      refine wok_b (sx_135 hx) fun r3 K3 h3 => ?_
      refine wok_b (sx_77 h3) fun r4 K4 h4 => ?_
      exact wok_m (tl _ _ _ _ _ h4 (by decide) ho) fun r K h => Or.inr h
  refine wok_b main fun r K hK => wok_r ?_
  rcases hK with ⟨i', w', s', nw', ns', np', ls', cs', H, c'', a1, a2, a3, a4⟩ | ⟨e, p, ho, hx⟩
  · exact Or.inl ⟨i', w', s', nw', ns', np', ls', cs', H, c'', rfl, a1, a2, a3, a4⟩
  · exact Or.inr ⟨e, p, rfl, ho, hx⟩
/-- [ key ] -/
theorem link_br {D k : Nat} (hM : tk_M T n M) (h : eg T n M G0 c0 O N off voff ph cx cb A B i0 ls0 cs0 w0 s0 nw0 ns0 np0 c t ((8, 0, 0, 0) :: W) L P Q F G i ls cs w s nw ns np c') (ht : tlr cb N A B w0 s0 nw0 ns0 np0 c F G ls cs w s nw ns np c') (h62 : ∀ l, l < N → B 62 l < np0) (hn : 10000 < nn) (hc0 : c0.length ≤ 1400) (hO : O ≤ 20000) (hB : bnd i w s nw ns np t (hg c) ((8, 0, 0, 0) :: W) L P Q N) (hW : W.length ≤ 20 * t + 6) (htD : t = D) (hD : D ≤ 20) (hE : E_ok nn T n M G0 c0 O (D + 1)) (hk : 20 * (22 - (D + 1)) + 20 ≤ k) (hkk : tk_k T n i = 5 ∧ tk_V T n (tk_pos T n i) = 91) :
    wok ((dk_136 G).bind fun y53 => (dk_77 nn y53.2).bind fun y57 => (dk_R nn k 148 [0, (D + 1) % 4294967296] y57.2).bind fun y61 => (dk_110 nn y61.2 56).bind fun y65 => od_up y65.2 56 7 11 fun F69 => (dk_84 F69).bind fun y72 => od_let ((y72.1 + (4294967296 - 2)) % 4294967296) fun y76 => od_up y72.2 56 8 y76 fun F79 => od_up F79 56 9 (G 57 6) fun F82 => some (1, F82)) (fun r K => (∃ i' w' s' nw' ns' np' ls' cs' H c'', r = 1 ∧ (rm_to nn F H ∧ rm_fr F H) ∧ eg T n M G0 c0 O N off voff ph cx cb A B i0 ls0 cs0 w0 s0 nw0 ns0 np0 c t ((8, 0, 0, 0) :: W) L P Q H K i' ls' cs' w' s' nw' ns' np' c'' ∧ tlr cb N A B w0 s0 nw0 ns0 np0 c H K ls' cs' w' s' nw' ns' np' c'' ∧ rts i w s nw ns i' w' s' nw' ns') ∨ (∃ e p, r = 1 ∧ rm_out nn e p F ∧ sx T n G0 c0 O e p N (zz t + 50) K)) := by
  subst htD
  have hB0 := hB
  obtain ⟨m1, m2, m3, m4, m5, m6, m7, m8, m9, m10, m11, m12⟩ := hB0
  have hM1 := hM.1
  have hiM := h.1.1.2.2.1
  have hN := h.2.2.1.1.1.1
  have hz : 6310 ≤ zz t ∧ zz t < 9800 ∧ zz (t + 1) + 110 ≤ zz t := by unfold zz; omega
  have hln : G 57 6 = 1 + lc T (tk_pos T n i) := h.2.1.1.2.1.2.2.1
  obtain ⟨F1, d1, f1, w1⟩ := link_in hM h ht h62 (by omega) (by omega) (by omega)
  have hgo := fun H => ry_go (nn := nn) (H := H) h.1 (by show W.length < 4000; omega)
  have hba := fun k p => ry_ba (nn := nn) (k := k) (p := p) h.1 (by show W.length < 4000; omega)
  have h33 : dk_32 nn (wq_up F 0 46 W.length) (8, 0, 0, 0).1 (8, 0, 0, 0).2.1 (8, 0, 0, 0).2.2.1 (8, 0, 0, 0).2.2.2 = dk_245 (wq_up F 0 46 W.length) := by
    show dk_32 nn (wq_up F 0 46 W.length) 8 0 0 0 = _
    rw [dk32_8, od_bI]
  have hd := h33.trans (rS hM (ry_pop h.1))
  rw [if_neg (by omega), if_pos hkk, d1, od_bS] at hd
  dsimp only at hd
  generalize dk_32 nn (wq_up F 0 46 W.length) (8, 0, 0, 0).1 (8, 0, 0, 0).2.1 (8, 0, 0, 0).2.2.1 (8, 0, 0, 0).2.2.2 = mm at *
  have tl : ∀ (e p B' : Nat) (K : wq_F), sx T n G0 c0 O e p N B' K → B' ≤ zz t + 50 → rm_out nn e p F → wok (od_up K 56 7 11 fun F69 => (dk_84 F69).bind fun y72 => od_let ((y72.1 + (4294967296 - 2)) % 4294967296) fun y76 => od_up y72.2 56 8 y76 fun F79 => od_up F79 56 9 (G 57 6) fun F82 => some (1, F82)) (fun r K => (∃ i' w' s' nw' ns' np' ls' cs' H c'', r = 1 ∧ (rm_to nn F H ∧ rm_fr F H) ∧ eg T n M G0 c0 O N off voff ph cx cb A B i0 ls0 cs0 w0 s0 nw0 ns0 np0 c t ((8, 0, 0, 0) :: W) L P Q H K i' ls' cs' w' s' nw' ns' np' c'' ∧ tlr cb N A B w0 s0 nw0 ns0 np0 c H K ls' cs' w' s' nw' ns' np' c'' ∧ rts i w s nw ns i' w' s' nw' ns') ∨ (∃ e p, r = 1 ∧ rm_out nn e p F ∧ sx T n G0 c0 O e p N (zz t + 50) K)) := fun e p B' K hx hB' ho => by
    refine wok_u (wok_b (sx_84 (sx_up hx (by omega))) fun r K h => ?_)
    exact wok_l (wok_u (wok_u (wok_r (Or.inr ⟨e, p, rfl, ho, sx_le (sx_up (sx_up h (by omega)) (by omega)) hB'⟩))))
  refine wok_b w1 fun r1 K1 h1 => ?_
  dsimp only
  obtain ⟨wa, sa, e1, u1, u2, u3, u4, _⟩ := h1
  have h46 : F1 0 46 = W.length := e1.1.2.2.1.1
  rw [dkS_31 (by omega), od_bS] at hd
  dsimp only at hd
  rw [dkS_31 (by rw [pm_la_at.2.2.2.2]; omega), od_bS] at hd
  dsimp only at hd
  have hr2 : ry T n M i ls t wa nw np ((3, 0, 0, 0) :: (10, 1 + lc T (tk_pos T n i), 0, 0) :: W) L P (pm_la (pm_la F1 10 (1 + lc T (tk_pos T n i)) 0 0) 3 0 0 0) := ry_la (ry_la e1.1)
  have b2 := bz_la (k := 3) (x := 0) (y := 0) (z := 0) (bz_la (k := 10) (x := 1 + lc T (tk_pos T n i)) (y := 0) (z := 0) e1.2.2.1)
  have ff2 : rm_fr F (pm_la (pm_la F1 10 (1 + lc T (tk_pos T n i)) 0 0) 3 0 0 0) := rm_fr_la (rm_fr_la f1)
  have x2 : ∀ d j, 12 ≤ d ∧ d ≤ 24 → pm_la (pm_la F1 10 (1 + lc T (tk_pos T n i)) 0 0) 3 0 0 0 d j = F1 d j := fun d j q => by rw [pm_la_ne (by omega) (by omega), pm_la_ne (by omega) (by omega)]
  generalize pm_la (pm_la F1 10 (1 + lc T (tk_pos T n i)) 0 0) 3 0 0 0 = F2 at *
  refine wok_b (bt_77 (B := 6200) hM hr2 e1.2.1 b2 (by omega) (by omega) (by omega) hc0 hO (by omega) (by omega) m5 (by omega)) fun r2 K2 h2 => ?_
  dsimp only
  rw [Nat.mod_eq_of_lt (show t + 1 < 4294967296 by omega)]
  rcases h2 with ⟨iM, e2, ms, c2, b2', f2, p2⟩ | ⟨e2, hx⟩
  · have hr3 := ry_nx hr2 iM
    have b3 : bz N off voff ph cx (0 :: c) np (wq_up F2 0 25 (i + 1)) ls K2 ms := bz_fu b2' (by omega)
    have g3 := hgo _ (rgo_i (hd.trans e2) (by decide) hr3.1.1 (rm_fr_up ff2 (by decide) (by decide)))
    have eg3 := eg_t e1 (eg_n (cb := cb) hr3 c2 b3 (fun d j q => (wq_up_cell (by omega)).trans (x2 d j (by omega))) (qf_fr f2) p2 (Nat.le_succ _) m5) h62
    generalize wq_up F2 0 25 (i + 1) = F3 at *
    refine wok_b (hE k 0 0 (i + 1) t wa sa nw ns np N off voff ph cx (0 :: c) cb ((10, 1 + lc T (tk_pos T n i), 0, 0) :: W) L P Q ls ms F3 K2 hk (Or.inl ⟨rfl, by decide⟩) rfl hr3 c2 b3 ⟨by omega, by omega, by omega, by omega, m5, m6, by rw [hg_0]; omega, by show W.length + 1 ≤ _; omega, m9, m10, m11, m12⟩) fun r4 K4 h4 => ?_
    dsimp only
    rcases h4 with ⟨i4, w4, s4, nw4, ns4, np4, ls4, cs4, F4, g4, eg4, ⟨v1, v2, v3, v4, v5⟩, _⟩ | ⟨e, p, ho, hx⟩
    · have hi4 := eg4.1.1.2.2.1
      have hnp4 := eg4.2.2.2.2.2.2
      have ege := eg_t eg3 eg4 h62
      have hg4 := fun H => ry_go (nn := nn) (H := H) eg4.1 (by show W.length < 4000; omega)
      have hb4 := fun k p => ry_ba (nn := nn) (k := k) (p := p) eg4.1 (by show W.length < 4000; omega)
      have hp := ry_pop eg4.1
      have hr5 : ry T n M i4 ls4 t w4 nw4 np4 ((8, 0, 0, 0) :: W) L P (pm_la (wq_up (wq_up (wq_up F4 0 46 W.length) 0 61 3) 0 63 (1 + lc T (tk_pos T n i))) 8 0 0 0) := ry_la (ry_up (ry_up hp (by unfold ry_n; omega)) (by unfold ry_n; omega))
      have b5 := bz_la (k := 8) (x := 0) (y := 0) (z := 0) (bz_fu (d := 0) (j := 63) (v := 1 + lc T (tk_pos T n i)) (bz_fu (d := 0) (j := 61) (v := 3) (bz_fu (d := 0) (j := 46) (v := W.length) eg4.2.2.1 (by omega)) (by omega)) (by omega))
      have ff5 : rm_fr F4 (pm_la (wq_up (wq_up (wq_up F4 0 46 W.length) 0 61 3) 0 63 (1 + lc T (tk_pos T n i))) 8 0 0 0) := rm_fr_la (rm_fr_up (rm_fr_up (rm_fr_up (rm_fr_refl _) (by decide) (by decide)) (by decide) (by decide)) (by decide) (by decide))
      have x5 : ∀ d j, 12 ≤ d ∧ d ≤ 24 → pm_la (wq_up (wq_up (wq_up F4 0 46 W.length) 0 61 3) 0 63 (1 + lc T (tk_pos T n i))) 8 0 0 0 d j = F4 d j := fun d j q => by
        rw [pm_la_ne (by omega) (by omega), wq_up_cell (by omega), wq_up_cell (by omega), wq_up_cell (by omega)]
      have r5 : pm_la (wq_up (wq_up (wq_up F4 0 46 W.length) 0 61 3) 0 63 (1 + lc T (tk_pos T n i))) 8 0 0 0 0 61 = 3 ∧ pm_la (wq_up (wq_up (wq_up F4 0 46 W.length) 0 61 3) 0 63 (1 + lc T (tk_pos T n i))) 8 0 0 0 0 63 = 1 + lc T (tk_pos T n i) := ⟨by rw [pm_la_ne (by omega) (by omega), wq_up_at (by decide), wq_up_same], by rw [pm_la_ne (by omega) (by omega), wq_up_same]⟩
      have h34 : dk_32 nn (wq_up F4 0 46 W.length) (10, 1 + lc T (tk_pos T n i), 0, 0).1 (10, 1 + lc T (tk_pos T n i), 0, 0).2.1 (10, 1 + lc T (tk_pos T n i), 0, 0).2.2.1 (10, 1 + lc T (tk_pos T n i), 0, 0).2.2.2 = dk_213 (pm_la (wq_up (wq_up (wq_up F4 0 46 W.length) 0 61 3) 0 63 (1 + lc T (tk_pos T n i))) 8 0 0 0) 93 := by
        show dk_32 nn (wq_up F4 0 46 W.length) 10 (1 + lc T (tk_pos T n i)) 0 0 = _
        rw [dk32_10, od_bI]
        unfold dk_274
        rw [od_upS, od_upS, dkS_31 (by rw [wq_up_at (by decide), wq_up_at (by decide), hp.2.2.1.1]; omega), od_bS, od_bI]
      generalize pm_la (wq_up (wq_up (wq_up F4 0 46 W.length) 0 61 3) 0 63 (1 + lc T (tk_pos T n i))) 8 0 0 0 = F5 at *
      refine wok_b (bt_sg (x := 93) (B := 6200) hM hr5 eg4.2.1 b5 (by decide) (by decide) (by omega) hc0 hO (by omega) (by omega) hnp4 (by omega)) fun r5' K5 h5 => ?_
      dsimp only
      rcases h5 with ⟨iM5, e5, ms5, c5, b5', f5, p5⟩ | ⟨e, e5, hx⟩
      · have hr6 := ry_nx hr5 iM5
        have b6 : bz N off voff ph cx (0 :: 0 :: c) np4 (wq_up F5 0 25 (i4 + 1)) ls4 K5 ms5 := bz_fu b5' (by omega)
        have g6 := hg4 _ (rgo_i (h34.trans e5) (by decide) hr6.1.1 (rm_fr_up ff5 (by decide) (by decide)))
        have c7 := cy_up (c := 56) (j := 7) (v := 11) c5 (by unfold cy_n; omega)
        have b7 := bz_gu (d := 56) (j := 7) (v := 11) b6 (by omega)
        refine wok_u ?_
        rw [cy_84 c7 b7, od_bS]
        dsimp only
        rw [hg_0, hg_0, show (hg c + 1 + 1 + (4294967296 - 2)) % 4294967296 = hg c by omega]
        have x7 : ∀ d j, ¬ d = 56 → wq_up (wq_up (wq_up K5 56 7 11) 56 8 (hg c)) 56 9 (G 57 6) d j = K5 d j := fun d j q => by rw [wq_up_cell q, wq_up_cell q, wq_up_cell q]
        refine wok_l (wok_u (wok_u (wok_r (Or.inl ⟨i4 + 1, w4, s4, nw4, ns4, np4, ls4, ms5, wq_up F5 0 25 (i4 + 1), 0 :: 0 :: c, rfl, ⟨rm_trans g3.1 (rm_trans g4.1 g6.1), rm_fr_trans g3.2 (rm_fr_trans g4.2 g6.2)⟩, eg_t ege (eg_n (cb := cb) hr6 (cy_up (cy_up c7 (by unfold cy_n; omega)) (by unfold cy_n; omega)) (bz_gu (bz_gu b7 (by omega)) (by omega)) (fun d j q => (wq_up_cell (by omega)).trans (x5 d j (by omega))) (fun d j q => (x7 d j (by omega)).trans (qf_fr (s := s4) (ns := ns4) f5 d j q)) p5 (Nat.le_succ _) hnp4) h62, Or.inr (Or.inr (Or.inr (Or.inl ⟨?_, ?_, rfl, ?_, ?_⟩))), ⟨by omega, by omega, by omega, by omega, by omega⟩⟩))))
        · rw [wq_up_at (by decide)]; exact r5.1
        · rw [wq_up_at (by decide), wq_up_at (by decide), wq_up_same]
        · rw [wq_up_at (by decide), wq_up_same]
        · rw [wq_up_at (by decide), r5.2, wq_up_same, hln]
      · exact tl _ _ _ _ hx (by omega) (rm_to_out g3.1 g3.2 (rm_to_out g4.1 g4.2 (hb4 _ _ (rba_f (h34.trans e5) ff5 (by rw [hr5.2.1.2.1]; omega)))))
    · refine wok_b (sx_110 hx (by decide)) fun r K h => ?_
      exact tl _ _ _ _ h (by omega) (rm_to_out g3.1 g3.2 ho)
  · refine wok_b (sx_148 hx (by omega)) fun r K h => ?_
    refine wok_b (sx_110 h.2 (by decide)) fun r K h => ?_
    exact tl _ _ _ _ h (by omega) (hba _ _ (rba_f (hd.trans e2) ff2 (by rw [hr2.2.1.2.1]; omega)))
end
