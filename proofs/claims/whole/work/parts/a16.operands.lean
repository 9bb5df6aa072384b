/-! ===== a16: operands (wip/whole2/lawa16.py) ===== -/
theorem rd_str {F : wq_F} {ls : List (List Nat)} {T : Nat → Nat} {n M i : Nat} (hM : tk_M T n M) (h : pm_at T n M i F ls) (hk : tk_k T n i = 3) : dk_238 F = dk_237 (wq_up F 0 64 4294967295) 5 (ev_oL2i (18446744073709551616 + wq_up F 0 64 4294967295 11 (wq_up F 0 64 4294967295 0 25))) := by
  have h1 : pm_at T n M i (wq_up F 0 64 4294967295) ls := pm_at_x h (fun d j a b => wq_up_cell (by omega)) (fun j hj => wq_up_ne (by omega))
  have hb := pm_b hM h1
  have hkd := pm_kind h1
  unfold dk_238
  rw [od_upS, od_g1 hb, if_neg (by omega), od_g1 hb, if_pos (hkd.trans hk), od_g1 hb, od_letS, od_bI]
theorem rd_num {F : wq_F} {ls : List (List Nat)} {T : Nat → Nat} {n M i m : Nat} (hM : tk_M T n M) (h : pm_at T n M i F ls) (hk : tk_k T n i = 2) (h40 : F 0 40 = m) (hm : m < 1501) : dk_238 F = dk_237 (wq_up (wq_up (wq_up F 0 64 4294967295) 24 m (tk_V T n (tk_pos T n i))) 0 40 (m + 1)) 4 m := by
  have h1 : pm_at T n M i (wq_up F 0 64 4294967295) ls := pm_at_x h (fun d j a b => wq_up_cell (by omega)) (fun j hj => wq_up_ne (by omega))
  have hb := pm_b hM h1
  have hkd := pm_kind h1
  have h40' : wq_up F 0 64 4294967295 0 40 = m := (wq_up_at (by decide)).trans h40
  have hv : wq_up F 0 64 4294967295 11 (wq_up F 0 64 4294967295 0 25) = tk_V T n (tk_pos T n i) := by
    rw [h1.2.1]
    exact (h1.2.2.2.2.2.1 i (by have := h1.2.2.1; omega)).2.2.1 (Or.inl hk)
  unfold dk_238
  rw [od_upS, od_g1 hb, if_pos (hkd.trans hk), od_g1 hb, od_letS, od_g1 (by omega), od_upS, od_letS, od_upS, od_letS, od_bI, h40', hv, Nat.add_sub_cancel_left]
  rw [show wq_up (wq_up F 0 64 4294967295) 24 m (tk_V T n (tk_pos T n i)) 0 40 = m from (wq_up_cell (by decide)).trans h40', Nat.mod_eq_of_lt (show m + 1 < 4294967296 by omega), wq_up_same, show (m + 1 + (4294967296 - 1)) % 4294967296 = m by omega]
theorem r223 {F F1 : wq_F} (h : F 0 41 < 14000) (e : dk_223 F = some (0, F1)) : F1 0 64 = F 0 64 := by
  unfold dk_223 at e
  by_cases q1 : ev_s 2 < ev_s (F 0 61)
  · rw [if_pos q1] at e
    by_cases q2 : F 0 61 = 3
    · rw [if_pos q2, dkS_30 h, od_bS] at e
      cases e
      show pm_em F 12 0 0 (F 0 63) 0 64 = F 0 64
      exact pm_em_ne (by omega) (by omega)
    · rw [if_neg q2] at e
      cases e
      rfl
  · rw [if_neg q1, dkS_30 h, od_bS] at e
    cases e
    show pm_em F ((6 + F 0 61) % 4294967296) (F 0 62) 0 (F 0 63) 0 64 = F 0 64
    exact pm_em_ne (by omega) (by omega)
section
variable {nn : Nat} {T : Nat → Nat} {n M O : Nat} {G0 : wq_F} {c0 : List (List Nat)} {i t w s nw ns np N : Nat} {off voff ph : Nat → Nat} {cx : Nat → List Nat} {c cb : List Nat} {W : List (Nat × Nat × Nat × Nat)} {L : List (Nat × Nat)} {P Q : List (Nat × Nat × Nat)} {ls cs : List (List Nat)} {F G : wq_F}

theorem cal_k {A B H K K' : wq_F} {e : Nat} {d : List Nat} {w0 s0 nw0 ns0 np0 : Nat} (h : cal cb N A B w0 s0 nw0 ns0 np0 c H K ls cs w s nw ns np e d) (h0 : ∀ d j, ¬ d = 56 → K' d j = K d j) (h62 : ∀ l, l < N → B 62 l < np0) (hN : 1 ≤ N) : cal cb N A B w0 s0 nw0 ns0 np0 c H K' ls cs w s nw ns np e d := by
  unfold cal at *
  refine pj_t h (pj_n (fun d j q => rfl) (fun d j q => ?_)) (st_pre_refl _) (st_pre_refl _) (fun g hg ⟨l, l1, l2⟩ => by have := h62 l l1; omega) (h62 (N - 1) (by omega))
  by_cases z : d = 14 ∧ j = s - 1
  · rw [z.1, z.2, wq_up_same, wq_up_same]
  · rw [wq_up_ne z, wq_up_ne z]
    exact h0 d j (by omega)
theorem op_str {R : dk_Rt} {D : Nat} (hM : tk_M T n M) (hr : ry T n M i ls t w nw np W L P F) (hc : cy T n G0 c0 O i cs s ns np N Q G) (hb : bz N off voff ph cx c np F ls G cs) (hn : 10000 < nn) (hc0 : c0.length ≤ 1400) (hO : O ≤ 20000) (hB : bnd i w s nw ns np t (hg c) W L P Q N) (hk : tk_k T n i = 3) : wok (dk_150 R nn G D) (fun r K => O_ok nn T n M G0 c0 O N off voff ph cx cb F G i ls cs w s nw ns np c t W L P Q (dk_238 F) 6200 r K) := by
  have h57 : G 57 4 = 4 := hc.1.2.1.1.trans (tk_ty_kind.2.2.1.mpr hk)
  obtain ⟨b1, b2, b3, b4, b5, b6, b7, b8, b9, b10, b11, b12⟩ := hB
  have hiM := hr.1.2.2.1
  have hM1 := hM.1
  rw [rd_str hM hr.1 hk]
  have hr2 : ry T n M i ls t w nw np W L P (wq_up F 0 64 4294967295) := ry_up hr (by unfold ry_n; omega)
  obtain ⟨sn, v1, v2, v3⟩ := hc.1.2.2.2.2.1 (Or.inr hk)
  have vr := (hr2.1.2.2.2.2.2.1 i (by omega)).2.2.2 (Or.inr hk)
  have hsl : cs.length ≤ c0.length + i + 1 := hc.1.2.2.2.2.2.1.2.2.1
  have hbf : bz N off voff ph cx c np (wq_up F 0 64 4294967295) ls G cs := bz_fu hb (by omega)
  have lsl : wq_up F 0 64 4294967295 11 i < 4294967296 := by
    have := vr.1
    have := lsb_len hbf.2.2.2.2.2.2.2 hr2.1.2.2.2.2.2.2
    omega
  rw [hr2.1.2.1, tb_l2i lsl]
  unfold dk_150
  refine wok_l (wok_f (by omega) (wok_t h57 ?_))
  rw [v1, tb_l2i (show sn < 4294967296 by omega)]
  refine wok_m (o_const (cb := cb) (A := F) (B := G) (nw0 := nw) (ns0 := ns) (o := 5) (a := wq_up F 0 64 4294967295 11 i) hM hr2 hc hbf hn hc0 hO (by omega) (by omega) (by omega) (by omega) (by omega) (by omega) b5 (by omega) (by omega) (fun d j h => wq_up_cell (by omega)) (rm_fr_up (rm_fr_refl _) (by decide) (by decide)) (fun d j _ => rfl) (fun H J nm e1 e2 e3 e4 _ _ hnm => ⟨4, e1, e3, by
    rw [e2, e4]
    exact hnm _ _ vr.1 v2 (vr.2.1.trans v3.symm), rfl⟩)) fun r K h => C_O h (by omega) (by omega)
theorem op_num {R : dk_Rt} {D : Nat} (hM : tk_M T n M) (hr : ry T n M i ls t w nw np W L P F) (hc : cy T n G0 c0 O i cs s ns np N Q G) (hb : bz N off voff ph cx c np F ls G cs) (hn : 10000 < nn) (hc0 : c0.length ≤ 1400) (hO : O ≤ 20000) (hB : bnd i w s nw ns np t (hg c) W L P Q N) (hk : tk_k T n i = 2) : wok (dk_150 R nn G D) (fun r K => O_ok nn T n M G0 c0 O N off voff ph cx cb F G i ls cs w s nw ns np c t W L P Q (dk_238 F) 6200 r K) := by
  have h57 : G 57 4 = 3 := hc.1.2.1.1.trans (tk_ty_kind.2.1.mpr hk)
  obtain ⟨b1, b2, b3, b4, b5, b6, b7, b8, b9, b10, b11, b12⟩ := hB
  have hiM := hr.1.2.2.1
  have hM1 := hM.1
  have h40 : F 0 40 = nw := hr.2.1.2.2.1
  rw [rd_num hM hr.1 hk h40 (by omega)]
  have hr1 : ry T n M i ls t w nw np W L P (wq_up (wq_up F 0 64 4294967295) 24 nw (tk_V T n (tk_pos T n i))) := ry_up (ry_up hr (by unfold ry_n; omega)) (by unfold ry_n; omega)
  have hr2 := ry_0 (j := 40) (v := nw + 1) hr1 (by decide)
  rw [if_neg (by decide), if_pos rfl, if_neg (by decide)] at hr2
  have hbf : bz N off voff ph cx c np (wq_up (wq_up (wq_up F 0 64 4294967295) 24 nw (tk_V T n (tk_pos T n i))) 0 40 (nw + 1)) ls G cs := bz_fu (bz_fu (bz_fu hb (by omega)) (by omega)) (by omega)
  have x2 : ∀ d j, ¬ d = 0 → ¬ (d = 24 ∧ j = nw) → wq_up (wq_up (wq_up F 0 64 4294967295) 24 nw (tk_V T n (tk_pos T n i))) 0 40 (nw + 1) d j = F d j := fun d j q1 q2 => by
    rw [wq_up_cell q1, wq_up_ne q2, wq_up_cell q1]
  have x24 : wq_up (wq_up (wq_up F 0 64 4294967295) 24 nw (tk_V T n (tk_pos T n i))) 0 40 (nw + 1) 24 nw = tk_V T n (tk_pos T n i) := by rw [wq_up_cell (by decide), wq_up_same]
  have ff : rm_fr F (wq_up (wq_up (wq_up F 0 64 4294967295) 24 nw (tk_V T n (tk_pos T n i))) 0 40 (nw + 1)) := rm_fr_up (rm_fr_up (rm_fr_up (rm_fr_refl _) (by decide) (by decide)) (by decide) (fun z => absurd z (by decide))) (by decide) (by decide)
  generalize wq_up (wq_up (wq_up F 0 64 4294967295) 24 nw (tk_V T n (tk_pos T n i))) 0 40 (nw + 1) = F2 at *
  unfold dk_150
  refine wok_l (wok_t h57 ?_)
  rw [hc.1.2.2.2.1 hk]
  refine wok_b (cy_157 (v := tk_V T n (tk_pos T n i)) hc hbf (by omega)) fun r K1 h1 => ?_
  dsimp only
  obtain ⟨r1, c1, e1, k16, q1, _⟩ := h1
  rw [r1]
  refine wok_m (o_const (cb := cb) (A := F) (B := G) (nw0 := nw) (ns0 := ns) (o := 4) (a := nw) hM hr2 c1 e1 hn hc0 hO (by omega) (by omega) (by omega) (by omega) (by omega) (by omega) b5 (by omega) (by omega) (fun d j h => x2 d j (by omega) (by omega)) ff (fun d j q => q1 d j q) (fun H J nm e1 e2 e3 e4 e5 e6 hnm => ⟨3, e1, e3, by omega, by omega, by
    rw [e2, e4, e5 nw (by omega) (by omega), e6 ns (by omega) (by omega), x24, k16], rfl⟩)) fun r K h => C_O h (by omega) (by omega)
theorem op_tab {D k : Nat} (hM : tk_M T n M) (hT : Tb_ok nn T n M G0 c0 O D) (hk : 20 * (22 - D) + 8 ≤ k) (htD : t = D) (hr : ry T n M i ls t w nw np W L P F) (hc : cy T n G0 c0 O i cs s ns np N Q G) (hb : bz N off voff ph cx c np F ls G cs) (hn : 10000 < nn) (hc0 : c0.length ≤ 1400) (hO : O ≤ 20000) (hB : bnd i w s nw ns np t (hg c) W L P Q N) (hW : W.length ≤ 20 * t + 12) (hkk : tk_k T n i = 5 ∧ tk_V T n (tk_pos T n i) = 123) : wok (dk_150 (dk_R nn k) nn G D) (fun r K => O_ok nn T n M G0 c0 O N off voff ph cx cb F G i ls cs w s nw ns np c t W L P Q (dk_238 F) (zz D + 60) r K) := by
  have h57 : G 57 4 = 53 := hc.1.2.1.1.trans ((tk_ty_sign (c := 123) (by decide)).mpr hkk)
  have h62 := hb.2.2.2.2.2.1
  rw [rd_tab hM hr.1 hkk]
  have hr2 : ry T n M i ls t w nw np W L P (wq_up F 0 64 4294967295) := ry_up hr (by unfold ry_n; omega)
  have hbf : bz N off voff ph cx c np (wq_up F 0 64 4294967295) ls G cs := bz_fu hb (by omega)
  have ff : rm_fr F (wq_up F 0 64 4294967295) := rm_fr_up (rm_fr_refl _) (by decide) (by decide)
  have e0 : eg T n M G0 c0 O N off voff ph cx cb F G i ls cs w s nw ns np c t W L P Q (wq_up F 0 64 4294967295) G i ls cs w s nw ns np c := eg_n hr2 hc hbf (fun d j q => wq_up_cell (by omega)) (qf_refl _) (st_pre_refl _) (Nat.le_refl _) hB.2.2.2.2.1
  generalize wq_up F 0 64 4294967295 = F1 at *
  unfold dk_150
  refine wok_l (wok_f (by omega) (wok_f (by omega) (wok_f (by omega) (wok_f (by omega) (wok_f (by omega) (wok_f (by omega) (wok_t h57 ?_)))))))
  refine wok_b (hT k i t w s nw ns np N off voff ph cx c cb W L P Q ls cs F1 G hk htD hkk hr2 hc hbf hB hW) fun r K h => wok_r ?_
  rcases h with ⟨i', w', s', nw', ns', np', ls', cs', H, g1, e1, ⟨u1, u2, u3, u4, u5⟩, h64⟩ | ⟨e, p, ho, hx⟩
  · exact Or.inl ⟨i', w', s', nw', ns', np', ls', cs', H, rgo_fr g1 ff, eg_t e0 e1 h62, ⟨by omega, by omega, by omega, by omega, by omega⟩, Or.inl ⟨rfl, h64⟩⟩
  · exact Or.inr ⟨e, p, rba_fr ho ff, sx_le hx (by omega)⟩
theorem op_chain {D k : Nat} (hM : tk_M T n M) (hE : E_ok nn T n M G0 c0 O (D + 1)) (hT : Tb_ok nn T n M G0 c0 O D) (hk : 20 * (22 - D) + 11 ≤ k) (htD : t = D) (hD : D ≤ 20) (hr : ry T n M i ls t w nw np W L P F) (hc : cy T n G0 c0 O i cs s ns np N Q G) (hb : bz N off voff ph cx c np F ls G cs) (hn : 10000 < nn) (hc0 : c0.length ≤ 1400) (hO : O ≤ 20000) (hB : bnd i w s nw ns np t (hg c) W L P Q N) (hW : W.length ≤ 20 * t + 4) (hkk : tk_k T n i = 1 ∨ (tk_k T n i = 5 ∧ tk_V T n (tk_pos T n i) = 40)) : wok (dk_150 (dk_R nn k) nn G D) (fun r K => O_ok nn T n M G0 c0 O N off voff ph cx cb F G i ls cs w s nw ns np c t W L P Q (dk_238 F) (zz D + 60) r K) := by
  have hB0 := hB
  obtain ⟨m1, m2, m3, m4, m5, m6, m7, m8, m9, m10, m11, m12⟩ := hB0
  have h62 := hb.2.2.2.2.2.1
  have hM1 := hM.1
  have hN := hb.1.1.1
  have hz : 6310 ≤ zz t ∧ zz t < 9800 := by unfold zz; omega
  have h57 : G 57 4 = 2 ∨ G 57 4 = 51 := by
    rcases hkk with q | q
    · exact Or.inl (hc.1.2.1.1.trans (tk_ty_kind.1.mpr q))
    · exact Or.inr (hc.1.2.1.1.trans ((tk_ty_sign (c := 40) (by decide)).mpr q))
  have hd := rd_chain hM hr.1 hkk (by rw [hr.2.2.1.1]; omega)
  have hr2 : ry T n M i ls t w nw np ((7, 0, 0, 0) :: (11, 0, 0, 0) :: W) L P (pm_la (pm_la (wq_up F 0 64 4294967295) 11 0 0 0) 7 0 0 0) := ry_la (ry_la (ry_up hr (by unfold ry_n; omega)))
  have b2 : bz N off voff ph cx c np (pm_la (pm_la (wq_up F 0 64 4294967295) 11 0 0 0) 7 0 0 0) ls G cs := bz_la (bz_la (bz_fu hb (by omega)))
  have f2 : rm_fr F (pm_la (pm_la (wq_up F 0 64 4294967295) 11 0 0 0) 7 0 0 0) := rm_fr_la (rm_fr_la (rm_fr_up (rm_fr_refl _) (by decide) (by decide)))
  have e0 : eg T n M G0 c0 O N off voff ph cx cb F G i ls cs w s nw ns np c t ((7, 0, 0, 0) :: (11, 0, 0, 0) :: W) L P Q (pm_la (pm_la (wq_up F 0 64 4294967295) 11 0 0 0) 7 0 0 0) G i ls cs w s nw ns np c := eg_n hr2 hc b2 (fun d j q => by rw [pm_la_ne (by omega) (by omega), pm_la_ne (by omega) (by omega), wq_up_cell (by omega)]) (qf_refl _) (st_pre_refl _) (Nat.le_refl _) m5
  generalize pm_la (pm_la (wq_up F 0 64 4294967295) 11 0 0 0) 7 0 0 0 = F2 at *
  have g2 : rgo nn F (dk_238 F) F2 := rgo_i hd (by decide) hr2.1.1 f2
  unfold dk_150
  refine wok_l (wok_f (by omega) (wok_f (by omega) (wok_f (by omega) (wok_f (by omega) (wok_f (by omega) (wok_f (by omega) (wok_f (by omega) (wok_f (by omega) ?_))))))))
  refine wok_b (ch_ok (cb := cb) hM hE hT hk htD hD hn hc0 hO hr2 hc b2 ⟨m1, m2, m3, m4, m5, m6, m7, by show W.length + 1 ≤ _; omega, m9, m10, m11, m12⟩ (by show W.length + 1 ≤ _; omega)) fun r K hK => ?_
  dsimp only
  rcases hK with ⟨i', w', s', nw', ns', np', ls', cs', H, c'', g3, e1, ht, ⟨u1, u2, u3, u4, u5⟩⟩ | ⟨e, p, ho, hx⟩
  · have hiM := e1.1.1.2.2.1
    have hnp := e1.2.2.2.2.2.2
    have hr3 := ry_pop e1.1
    have hgo := fun H' => ry_go (nn := nn) (H := H') e1.1 (by show W.length < 4000; omega)
    have h33 : dk_32 nn (wq_up H 0 46 W.length) (11, 0, 0, 0).1 (11, 0, 0, 0).2.1 (11, 0, 0, 0).2.2.1 (11, 0, 0, 0).2.2.2 = dk_275 (wq_up H 0 46 W.length) := by
      show dk_32 nn (wq_up H 0 46 W.length) 11 0 0 0 = _
      rw [dk32_11, od_bI]
    have hC : dk_275 (wq_up H 0 46 W.length) = if wq_up (wq_up H 0 46 W.length) 0 64 4294967295 0 61 = 4 then some (1, wq_up (wq_up (wq_up H 0 46 W.length) 0 64 4294967295) 0 64 (wq_up (wq_up H 0 46 W.length) 0 64 4294967295 0 62)) else (dk_223 (wq_up (wq_up H 0 46 W.length) 0 64 4294967295)).bind fun y5 => some (1, y5.2) := by
      unfold dk_275
      rw [od_upS, od_upS]
    have hr4 : ry T n M i' ls' t w' nw' np' W L P (wq_up (wq_up H 0 46 W.length) 0 64 4294967295) := ry_up hr3 (by unfold ry_n; omega)
    have h0 : ∀ d j, ¬ d = 0 → wq_up (wq_up H 0 46 W.length) 0 64 4294967295 d j = H d j := fun d j q => (wq_up_cell q).trans (wq_up_cell q)
    have h1 : ∀ j, ¬ j = 46 → ¬ j = 64 → wq_up (wq_up H 0 46 W.length) 0 64 4294967295 0 j = H 0 j := fun j q q' => (wq_up_at q').trans (wq_up_at q)
    have h64 : wq_up (wq_up H 0 46 W.length) 0 64 4294967295 0 64 = 4294967295 := wq_up_same _ _ _ _
    have f4 : rm_fr H (wq_up (wq_up H 0 46 W.length) 0 64 4294967295) := rm_fr_up (rm_fr_up (rm_fr_refl _) (by decide) (by decide)) (by decide) (by decide)
    have e4 := eg_0 e1 hr4 h0 ⟨h1 50 (by decide) (by decide), h1 53 (by decide) (by decide)⟩ h62
    have t4 := tlr_0 ht h0 ⟨h1 61 (by decide) (by decide), h1 62 (by decide) (by decide), h1 63 (by decide) (by decide)⟩ h62 hN
    have hC := h33.trans hC
    generalize dk_32 nn (wq_up H 0 46 W.length) (11, 0, 0, 0).1 (11, 0, 0, 0).2.1 (11, 0, 0, 0).2.2.1 (11, 0, 0, 0).2.2.2 = mm at *
    generalize wq_up (wq_up H 0 46 W.length) 0 64 4294967295 = H4 at *
    have hw4 : H4 0 41 = w' := hr4.2.1.2.1
    by_cases qc : H4 0 61 = 4
    · -- a call stands last
      rw [if_pos qc] at hC
      obtain ⟨k7, kc, y2, y3, y4, y5, y6⟩ : K 56 7 = 4294967294 ∧ c'' = 0 :: c ∧ H4 0 62 + 1 = w' ∧ w < w' ∧ s < s' ∧ cal cb N F2 G w s nw ns np c H4 K ls' cs' w' s' nw' ns' np' 4294967295 (2 :: c) ∧ cal cb N F2 G w s nw ns np c H4 K ls' cs' w' s' nw' ns' np' 0 c := by
        rcases t4 with z | z | z | z | ⟨z1, z2, z3, z4⟩ | z
        · omega
        · omega
        · omega
        · omega
        · exact ⟨z2, z3, z4⟩
        · omega
      rw [kc] at e4
      refine wok_t k7 ?_
      have hr5 : ry T n M i' ls' t w' nw' np' W L P (wq_up H4 0 64 (H4 0 62)) := ry_up hr4 (by unfold ry_n; omega)
      have g5 := hgo _ (rgo_i hC (by decide) hr5.1.1 (rm_fr_up f4 (by decide) (by decide)))
      have w136 : dk_136 K = some (0, wq_up K 56 7 4294967295) := by
        unfold dk_136
        rw [if_neg (by omega), if_pos (by omega), od_upS]
      rw [w136, od_bS]
      have e5 : eg T n M G0 c0 O N off voff ph cx cb H4 K i' ls' cs' w' s' nw' ns' np' (0 :: c) t W L P Q (wq_up H4 0 64 (H4 0 62)) (wq_up K 56 7 4294967295) i' ls' cs' w' s' nw' ns' np' (0 :: c) := eg_n hr5 (cy_up e4.2.1 (by unfold cy_n; omega)) (bz_gu (bz_fu e4.2.2.1 (by omega)) (by omega)) (fun d j q => wq_up_cell (by omega)) (fun d j q => wq_up_cell (by omega)) (st_pre_refl _) (Nat.le_refl _) hnp
      refine wok_r (Or.inl ⟨i', w', s', nw', ns', np', ls', cs', wq_up H4 0 64 (H4 0 62), rgo_t (rgo_t g2 g3) g5, eg_t e0 (eg_t e4 e5 h62) h62, ⟨by omega, by omega, by omega, by omega, by omega⟩, Or.inr ⟨rfl, ?_, y3, y4, ?_⟩⟩)
      · rw [wq_up_same]
        exact y2
      · have z := cal_t e0 (cal_k (cal_0 y5 (H' := wq_up H4 0 64 (H4 0 62)) (fun d j q => wq_up_cell q) h62 hN) (K' := wq_up K 56 7 4294967295) (fun d j q => wq_up_cell q) h62 hN) e1.2.2.2.2.1.1.1 e1.2.2.2.2.1.2.1 h62
        unfold cal at z
        exact z
    · rw [if_neg qc] at hC
      have k7 : ¬ K 56 7 = 4294967294 := by
        rcases t4 with z | z | z | z | z | z <;> omega
      refine wok_f k7 ?_
      obtain ⟨F5, d5, f5, w5⟩ := dis_step e4 t4 h62 (by omega) (by omega) (by omega)
      rw [d5, od_bS] at hC
      refine wok_b w5 fun r K5 hK5 => ?_
      obtain ⟨w6, s6, e6, v1, v2, v3, v4, _⟩ := hK5
      have g5 := hgo _ (rgo_i hC (by decide) e6.1.1.1 (rm_fr_trans f4 f5))
      exact wok_r (Or.inl ⟨i', w6, s6, nw', ns', np', ls', cs', F5, rgo_t (rgo_t g2 g3) g5, eg_t e0 e6 h62, ⟨by omega, by omega, by omega, by omega, by omega⟩, Or.inl ⟨rfl, (r223 (by omega) d5).trans h64⟩⟩)
  · have ho := rgo_o g2 ho
    refine wok_i (fun _ => ?_) (fun _ => ?_)
    · exact wok_b (sx_136 hx (by omega)) fun r K h => wok_r (Or.inr ⟨e, p, ho, sx_le h (by rw [htD]; omega)⟩)
    · exact wok_b (sx_136 hx (by omega)) fun r K h => wok_r (Or.inr ⟨e, p, ho, sx_le h (by rw [htD]; omega)⟩)
end
