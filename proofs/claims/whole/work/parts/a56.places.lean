/-! ===== a56: a function's name: its places; stores (wip/whole2/lawa56.py) ===== -/
section
variable {nn : Nat} {T : Nat → Nat} {n M O : Nat} {G0 : wq_F} {c0 : List (List Nat)} {i t w s nw ns np N : Nat} {off voff ph : Nat → Nat} {cx : Nat → List Nat} {c cb : List Nat} {W : List (Nat × Nat × Nat × Nat)} {L : List (Nat × Nat)} {P Q : List (Nat × Nat × Nat)} {ls cs : List (List Nat)} {F G : wq_F}

variable {i0 w0 s0 nw0 ns0 np0 : Nat} {ls0 cs0 : List (List Nat)} {A B : wq_F} {c' : List Nat}
theorem pj_ef {lv : Nat → Prop} {f m o a b l op x y l' : Nat} {A' B' : wq_F} {d : List Nat} (hA : ∀ d j, 12 ≤ d ∧ d ≤ 24 → A' d j = pm_em A o a b l d j) (hw : A 0 41 = w) (hq : qf s ns B B') (hi : cI B' s op x y l') (hf : ∀ (H J : wq_F) (nm : Nat → Nat → Prop), rI H w o a b l → cI J s op x y l' → A 15 f ≤ H 15 f → nmr ls cs nm → (∃ k, cs1 H J nm k f w s c [(f, w + 1, s + 1, d)]) ∨ ∃ k, cs2 H J k f w s c [(f, w + 1, s + 1, d)]) : pj ls cs lv f cb A B w s nw ns m c A' B' (w + 1) (s + 1) nw ns m d [] [] := by
  have hat := pm_em_at (F := A) (op := o) (a := a) (b := b) (ln := l)
  rw [hw] at hat
  refine pj_1 ⟨by omega, by omega, by omega, by omega⟩ (fun d j q => (hA d j (by omega)).trans (pm_em_ne (by omega) (by omega))) (fun d j q => hq d j (by omega)) (fun H J nm ha hb hnm => hf H J nm ⟨?_, ?_, ?_, ?_⟩ ⟨?_, ?_, ?_, ?_⟩ ?_ hnm)
  · rw [ha.1 20 w (by decide) (by decide) (by omega) (by omega), hA 20 w (by decide)]; exact hat.1
  · rw [ha.1 21 w (by decide) (by decide) (by omega) (by omega), hA 21 w (by decide)]; exact hat.2.1
  · rw [ha.1 22 w (by decide) (by decide) (by omega) (by omega), hA 22 w (by decide)]; exact hat.2.2.1
  · rw [ha.1 23 w (by decide) (by decide) (by omega) (by omega), hA 23 w (by decide)]; exact hat.2.2.2.1
  · rw [hb.1 12 s (by decide) (by decide) (by omega) (by omega)]; exact hi.1
  · rw [hb.1 13 s (by decide) (by decide) (by omega) (by omega)]; exact hi.2.1
  · rw [hb.1 14 s (by decide) (by decide) (by omega) (by omega)]; exact hi.2.2.1
  · rw [hb.1 15 s (by decide) (by decide) (by omega) (by omega)]; exact hi.2.2.2
  · have z := ha.2.2.2
    rw [hA 15 f (by decide), pm_em_ne (by omega) (by omega)] at z
    exact z
theorem e_112f {o a b l op x l' by' : Nat} {d : List Nat} (hr : ry T n M i ls t w nw np W L P F) (hc : cy T n G0 c0 O i cs s ns np N Q G) (hb : bz N off voff ph cx c np F ls G cs) (hnp : np ≤ 50) (hs : s < 10000) (hd : hg d = (hg c + by') % 4294967296) (hat : ∀ k, voff (N - 1) ≤ k → k < voff N → cx_at c (G 61 (ph k)) (F 30 k) → cx_at d (G 61 (ph k)) (F 30 k)) (hd2 : ∀ e ∈ d, e < F 14 (G 62 (N - 1)) + 5) (hf : ∀ (H J : wq_F) (nm : Nat → Nat → Prop), rI H w o a b l → cI J s op x 0 l' → F 15 (G 62 (N - 1)) ≤ H 15 (G 62 (N - 1)) → nmr ls cs nm → (∃ k, cs1 H J nm k (G 62 (N - 1)) w s c [(G 62 (N - 1), w + 1, s + 1, d)]) ∨ ∃ k, cs2 H J k (G 62 (N - 1)) w s c [(G 62 (N - 1), w + 1, s + 1, d)]) : wok (dk_112 G op x l' by') (fun _ K => (eg T n M G0 c0 O N off voff ph cx cb F G i ls cs w s nw ns np c t W L P Q (pm_em F o a b l) K i ls cs (w + 1) (s + 1) nw ns np d) ∧ ∀ j, K 56 j = G 56 j) := by
  refine wok_m (cy_112 hc hb hs hd hat hd2) fun r K ⟨h2, h3, h4, h5, h6⟩ => ⟨⟨ry_em hr, h2, bz_em h3, ?_, ⟨st_sf_refl _, st_pre_refl _, ⟨fun l _ => ⟨h5 62 l (by omega), h5 65 l (by omega)⟩, fun i _ e6 h6 => h5 e6 i (by omega)⟩⟩, Nat.le_refl _, hnp⟩, h6⟩
  exact pj_ef (fun d j q => rfl) hr.2.1.2.1 h5 h4 hf
/-- the mark dropped: the reference alone -/
theorem e_drop {c1 : List Nat} {a b l : Nat} (hr : ry T n M i ls t w nw np W L P F) (hc : cy T n G0 c0 O i cs s ns np N Q G) (hb : bz N off voff ph cx c1 np F ls G cs) (hc1 : c1 = 1 :: c) (hnp : np ≤ 50) : eg T n M G0 c0 O N off voff ph cx cb F G i ls cs w s nw ns np c1 t W L P Q (pm_em F 47 a b l) G i ls cs (w + 1) s nw ns np c := by
  subst hc1
  have hw2 : F 0 41 = w := hr.2.1.2.1
  have b2 := bz_em (op := 47) (a := a) (b := b) (ln := l) hb
  have hat := pm_em_at (F := F) (op := 47) (a := a) (b := b) (ln := l)
  rw [hw2] at hat
  have b4 : bz N off voff ph cx c np (pm_em F 47 a b l) ls G cs := bz_h b2 (bzG_refl _) (fun l hl => by
    by_cases z : l = N - 1
    · rw [if_pos z, z, bz_hc b2, hg_1]
    · rw [if_neg z]) (fun k _ _ h => cx_at_dn (a := [1]) (fun e he => by rw [List.mem_singleton.mp he]; decide) h) (bz_cd (a := [1]) b2 rfl)
  refine ⟨ry_em hr, hc, b4, ?_, ⟨st_sf_refl _, st_pre_refl _, ⟨fun _ _ => ⟨rfl, rfl⟩, fun _ _ _ _ => rfl⟩⟩, Nat.le_refl _, hnp⟩
  refine pj_1 ⟨by omega, by omega, by omega, by omega⟩ (fun d j q => pm_em_ne (by omega) (by omega)) (fun d j q => rfl) (fun H J nm ha2 hb2 _ => Or.inr ⟨20, ?_, c, rfl, rfl⟩)
  rw [ha2.1 20 w (by decide) (by decide) (by omega) (by omega)]
  exact hat.1
theorem tlr_hg (ht : tlr cb N A B w0 s0 nw0 ns0 np0 c F G ls cs w s nw ns np c') : hg c' ≤ hg c + 2 := by
  rcases ht with ⟨_, _, t3, _⟩ | ⟨_, _, t3, _⟩ | ⟨_, _, t3, _⟩ | ⟨_, _, t3, _⟩ | ⟨_, _, t3, _⟩ | ⟨_, _, t3⟩
  · rw [t3]; omega
  · rw [t3]; omega
  · rw [t3]; omega
  · rw [t3, hg_0, hg_0]; omega
  · rw [t3, hg_0]; omega
  · rw [t3, hg_0]; omega
/-- a sign and a name -/
theorem fn_dot {r64 : wq_F → Nat → Option (Nat × wq_F)} {m : Nat} (hM : tk_M T n M) (h : eg T n M G0 c0 O N off voff ph cx cb A B i0 ls0 cs0 w0 s0 nw0 ns0 np0 c t W L P Q F G i ls cs w s nw ns np c') (ht : tlr cb N A B w0 s0 nw0 ns0 np0 c F G ls cs w s nw ns np c') (h62 : ∀ l, l < N → B 62 l < np0) (hn : 10000 < nn) (hc0 : c0.length ≤ 1400) (hO : O ≤ 20000) (hB : bnd i w s nw ns np t (hg c) W L P Q N) (hk : tk_k T n i = 5) : wok (dk_134 nn G) (fun _ K => (∃ ms w' s' H, dk_232_100 nn r64 F m = r64 H m ∧ rm_fr F H ∧ eg T n M G0 c0 O N off voff ph cx cb A B i0 ls0 cs0 w0 s0 nw0 ns0 np0 c t W L P Q H K (i + 1 + 1) ls ms w' s' nw ns np (0 :: 0 :: c) ∧ tlr cb N A B w0 s0 nw0 ns0 np0 c H K ls ms w' s' nw ns np (0 :: 0 :: c) ∧ H 0 61 = 3 ∧ w ≤ w' ∧ w' ≤ w + 2 ∧ s ≤ s' ∧ s' ≤ s + 2) ∨ ∃ e p X, dk_232_100 nn r64 F m = some (0, pm_f X e p) ∧ rm_fr F X ∧ X 0 41 < 13999 ∧ sx T n G0 c0 O e p N 6210 K) := by
  have hB0 := hB
  obtain ⟨m1, m2, m3, m4, m5, m6, m7, m8, m9, m10, m11, m12⟩ := hB0
  have hM1 := hM.1
  have hiM := h.1.1.2.2.1
  have hN := h.2.2.1.1.1
  have hln : G 57 6 = 1 + lc T (tk_pos T n i) := h.2.1.1.2.1.2.2.1
  obtain ⟨F1, d1, f1, w1⟩ := dis_step h ht h62 (by omega) (by omega) (by omega)
  have hd : dk_232_100 nn r64 F m = (dk_212 F1).bind fun y9 => if y9.1 = 0 then some (0, y9.2) else od_g (y9.2 0 25 < 1502) <| if (y9.2 9 (y9.2 0 25)) = 1 then od_g (y9.2 0 25 < 1502) <| od_let (18446744073709551616 + y9.2 11 (y9.2 0 25)) fun y17 => (dk_30 y9.2 5 (ev_oL2i y17) 0 0).bind fun y20 => od_up y20.2 0 61 3 fun F24 => od_up F24 0 63 (1 + lc T (tk_pos T n i)) fun F27 => (dk_212 F27).bind fun y30 => if y30.1 = 0 then some (0, y30.2) else r64 y30.2 m else dk_211 y9.2 := by
    unfold dk_232_100
    rw [pm_line hM h.1.1, od_bS]
    dsimp only
    rw [d1, od_bS]
    simp only [od_bI]
  generalize dk_232_100 nn r64 F m = mm at *
  have tl : ∀ (e p B' v : Nat) (K X : wq_F), sx T n G0 c0 O e p N B' K → B' ≤ 6210 → mm = some (0, pm_f X e p) → rm_fr F X → X 0 41 < 13999 → wok (od_up K 56 7 11 fun F17 => (dk_84 F17).bind fun y20 => od_let ((y20.1 + (4294967296 - 2)) % 4294967296) fun y24 => od_up y20.2 56 8 y24 fun F27 => od_up F27 56 9 v fun F30 => some (0, F30)) (fun _ K => ∃ e p X, mm = some (0, pm_f X e p) ∧ rm_fr F X ∧ X 0 41 < 13999 ∧ sx T n G0 c0 O e p N 6210 K) := fun e p B' v K X hx hB' ha hb2 hc2 => by
    refine wok_u (wok_b (sx_84 (sx_up hx (by omega))) fun r K h => ?_)
    exact wok_l (wok_u (wok_u (wok_r ⟨e, p, X, ha, hb2, hc2, sx_le (sx_up (sx_up h (by omega)) (by omega)) (by omega)⟩)))
  unfold dk_134
  refine wok_b w1 fun r1 K1 h1 => ?_
  dsimp only
  obtain ⟨wa, sa, e1, u1, u2, u3, u4, _⟩ := h1
  have k6 : K1 57 6 = 1 + lc T (tk_pos T n i) := e1.2.1.1.2.1.2.2.1
  refine wok_b (bt_77 (B := 6200) hM e1.1 e1.2.1 e1.2.2.1 (by omega) (by omega) (by omega) hc0 hO (by omega) (by omega) m5 (by omega)) fun r2 K2 h2 => ?_
  dsimp only
  rcases h2 with ⟨iM, e2, ms, c2, b2, f2, p2⟩ | ⟨e2, hx⟩
  rotate_left
  · rw [e2, od_bS] at hd
    refine wok_b (sx_135 hx) fun r3 K3 h3 => ?_
    refine wok_b (sx_77 h3) fun r4 K4 h4 => ?_
    exact wok_m (tl _ _ _ _ _ F1 h4 (by decide) (hd.trans (if_pos rfl)) f1 (by rw [e1.1.2.1.2.1]; omega)) fun r K h => Or.inr h
  rw [e2, od_bS] at hd
  dsimp only at hd
  rw [if_neg (by decide)] at hd
  have hr2 := ry_nx e1.1 iM
  have b2' : bz N off voff ph cx (0 :: c) np (wq_up F1 0 25 (i + 1)) ls K2 ms := bz_fu b2 (by omega)
  have ff2 : rm_fr F (wq_up F1 0 25 (i + 1)) := rm_fr_up f1 (by decide) (by decide)
  have eg2 := eg_t e1 (eg_n (cb := cb) hr2 c2 b2' (fun d j q => wq_up_cell (by omega)) (qf_fr f2) p2 (Nat.le_succ _) m5) h62
  rw [od_g1 (pm_b hM hr2.1)] at hd
  have hkd := pm_kind hr2.1
  generalize wq_up F1 0 25 (i + 1) = F2 at *
  have hw2 : F2 0 41 = wa := hr2.2.1.2.1
  have k57 : K2 57 4 = tk_ty T n (tk_pos T n (i + 1)) := c2.1.2.1.1
  by_cases q1 : tk_k T n (i + 1) = 1
  rotate_left
  · rw [if_neg (fun z => q1 (hkd.symm.trans z)), pm_wrong hM hr2.1] at hd
    have t135 : wok (dk_135 K2) (fun _ K => sx T n G0 c0 O (tk_wr T n (i + 1)) (tk_pos T n (i + 1)) N 6200 K) := by
      unfold dk_135
      refine wok_f (fun z => q1 (tk_ty_kind.1.mp (k57.symm.trans z))) ?_
      exact wok_b (bt_wr (B := 6200) hM hr2 c2 b2' (by omega) (by omega) m5 (by omega)).2 fun r K h => wok_r h
    refine wok_b t135 fun r3 K3 h3 => ?_
    refine wok_b (sx_77 h3) fun r4 K4 h4 => ?_
    exact wok_m (tl _ _ _ _ _ F2 h4 (by decide) hd ff2 (by omega)) fun r K h => Or.inr h
  rw [if_pos (hkd.trans q1), od_g1 (pm_b hM hr2.1), od_letS, dkS_30 (by omega), od_bS] at hd
  dsimp only at hd
  rw [od_upS, od_upS] at hd
  obtain ⟨sn, v1, v2, v3⟩ := c2.1.2.2.2.2.1 (Or.inl q1)
  have hsl : ms.length ≤ c0.length + (i + 1) + 1 := c2.1.2.2.2.2.2.1.2.2.1
  have vr := (hr2.1.2.2.2.2.2.1 (i + 1) (by omega)).2.2.2 (Or.inl q1)
  have hlb := lsb_len b2'.2.2.2.2.2.2.2 hr2.1.2.2.2.2.2.2
  have v11 : ev_oL2i (18446744073709551616 + F2 11 (F2 0 25)) = F2 11 (i + 1) := by
    rw [hr2.1.2.1]
    exact tb_l2i (by omega)
  rw [v11] at hd
  have hat := pm_em_at (F := F2) (op := 5) (a := F2 11 (i + 1)) (b := 0) (ln := 0)
  rw [hw2] at hat
  have hr3 : ry T n M (i + 1) ls t (wa + 1) nw np W L P (wq_up (wq_up (pm_em F2 5 (F2 11 (i + 1)) 0 0) 0 61 3) 0 63 (1 + lc T (tk_pos T n i))) := ry_up (ry_up (ry_em hr2) (by unfold ry_n; omega)) (by unfold ry_n; omega)
  have b3F := bz_fu (d := 0) (j := 63) (v := 1 + lc T (tk_pos T n i)) (bz_fu (d := 0) (j := 61) (v := 3) (bz_em (op := 5) (a := F2 11 (i + 1)) (b := 0) (ln := 0) b2') (by omega)) (by omega)
  have ff3 : rm_fr F (wq_up (wq_up (pm_em F2 5 (F2 11 (i + 1)) 0 0) 0 61 3) 0 63 (1 + lc T (tk_pos T n i))) := rm_fr_up (rm_fr_up (rm_fr_em ff2) (by decide) (by decide)) (by decide) (by decide)
  have x3 : ∀ d j, 12 ≤ d ∧ d ≤ 24 → wq_up (wq_up (pm_em F2 5 (F2 11 (i + 1)) 0 0) 0 61 3) 0 63 (1 + lc T (tk_pos T n i)) d j = pm_em F2 5 (F2 11 (i + 1)) 0 0 d j := fun d j q => by
    rw [wq_up_cell (by omega), wq_up_cell (by omega)]
  have y3 : wq_up (wq_up (pm_em F2 5 (F2 11 (i + 1)) 0 0) 0 61 3) 0 63 (1 + lc T (tk_pos T n i)) 0 61 = 3 ∧ wq_up (wq_up (pm_em F2 5 (F2 11 (i + 1)) 0 0) 0 61 3) 0 63 (1 + lc T (tk_pos T n i)) 0 63 = 1 + lc T (tk_pos T n i) := ⟨by rw [wq_up_at (by decide), wq_up_same], wq_up_same _ _ _ _⟩
  generalize wq_up (wq_up (pm_em F2 5 (F2 11 (i + 1)) 0 0) 0 61 3) 0 63 (1 + lc T (tk_pos T n i)) = F3 at *
  have t135 : wok (dk_135 K2) (fun _ K => cy T n G0 c0 O (i + 1) ms (sa + 1) ns np N Q K ∧ bz N off voff ph cx (0 :: 0 :: c) np F3 ls K ms ∧ cI K sa 4 sn 0 (K2 57 6) ∧ qf sa ns K2 K ∧ ∀ j, K 56 j = K2 56 j) := by
    unfold dk_135
    refine wok_t (k57.trans (tk_ty_kind.1.mpr q1)) ?_
    rw [v1, tb_l2i (show sn < 4294967296 by omega)]
    exact wok_b (cy_p1 (e := 0) c2 b3F (by omega) (by rw [hg_0]; omega) (by decide)) fun r K h => wok_r h
  refine wok_b t135 fun r3 K3 h3 => ?_
  dsimp only
  obtain ⟨c3, b3, i3, q3, _⟩ := h3
  refine wok_b (bt_77 (B := 6210) hM hr3 c3 b3 (by omega) (by omega) (by omega) hc0 hO (by omega) (by omega) m5 (by omega)) fun r4 K4 h4 => ?_
  dsimp only
  rcases h4 with ⟨iM4, e4, ms4, c4, b4, f4, p4⟩ | ⟨e4, hx⟩
  rotate_left
  · rw [e4, od_bS] at hd
    exact wok_m (tl _ _ _ _ _ F3 hx (by decide) (hd.trans (if_pos rfl)) ff3 (by rw [hr3.2.1.2.1]; omega)) fun r K h => Or.inr h
  rw [e4, od_bS] at hd
  dsimp only at hd
  rw [if_neg (by decide)] at hd
  have hr4 := ry_nx hr3 iM4
  have b4' : bz N off voff ph cx (0 :: 0 :: c) np (wq_up F3 0 25 (i + 1 + 1)) ls K4 ms4 := bz_fu b4 (by omega)
  have q4 : qf (sa + 1) ns K3 K4 := qf_fr f4
  have c5 := cy_up (c := 56) (j := 7) (v := 11) c4 (by unfold cy_n; omega)
  have b5 := bz_gu (d := 56) (j := 7) (v := 11) b4' (by omega)
  refine wok_u ?_
  rw [cy_84 c5 b5, od_bS]
  dsimp only
  rw [hg_0, hg_0, show (hg c + 1 + 1 + (4294967296 - 2)) % 4294967296 = hg c by omega]
  have x4 : ∀ d j, ¬ d = 56 → wq_up (wq_up (wq_up K4 56 7 11) 56 8 (hg c)) 56 9 (K1 57 6) d j = K4 d j := fun d j q => by rw [wq_up_cell q, wq_up_cell q, wq_up_cell q]
  have q5 : qf (sa + 1) ns K3 (wq_up (wq_up (wq_up K4 56 7 11) 56 8 (hg c)) 56 9 (K1 57 6)) := fun d j q => (x4 d j (by omega)).trans (q4 d j q)
  refine wok_l (wok_u (wok_u (wok_r (Or.inl ⟨ms4, wa + 1, sa + 1, wq_up F3 0 25 (i + 1 + 1), hd, rm_fr_up ff3 (by decide) (by decide), eg_t eg2 (⟨hr4, cy_up (cy_up c5 (by unfold cy_n; omega)) (by unfold cy_n; omega), bz_gu (bz_gu b5 (by omega)) (by omega), ?_, ⟨st_sf_refl _, p4, ⟨fun l _ => ⟨(q5 62 l (by omega)).trans (q3 62 l (by omega)), (q5 65 l (by omega)).trans (q3 65 l (by omega))⟩, fun l _ e6 h6 => (q5 e6 l (by omega)).trans (q3 e6 l (by omega))⟩⟩, Nat.le_succ _, m5⟩) h62, Or.inr (Or.inr (Or.inr (Or.inl ⟨?_, ?_, rfl, ?_, ?_⟩))), ?_, by omega, by omega, by omega, by omega⟩))))
  · refine pj_1 ⟨by omega, by omega, by omega, by omega⟩ (fun d j q => by rw [wq_up_cell (by omega), x3 d j (by omega), pm_em_ne (by omega) (by omega)]) (fun d j q => (q5 d j (by omega)).trans (q3 d j (by omega))) (fun H J nm ha2 hb2 hnm => Or.inl ⟨4, ?_, ?_, ?_, rfl⟩)
    · rw [ha2.1 20 wa (by decide) (by decide) (by omega) (by omega), wq_up_cell (by decide), x3 20 wa (by decide)]; exact hat.1
    · rw [hb2.1 12 sa (by decide) (by decide) (by omega) (by omega), q5 12 sa (by omega)]; exact i3.1
    · rw [ha2.1 21 wa (by decide) (by decide) (by omega) (by omega), wq_up_cell (by decide), x3 21 wa (by decide), hat.2.1, hb2.1 13 sa (by decide) (by decide) (by omega) (by omega), q5 13 sa (by omega), i3.2.1]
      exact nmr_up hnm (st_pre_refl _) p4 _ _ vr.1 v2 (vr.2.1.trans v3.symm)
  · rw [wq_up_at (by decide)]; exact y3.1
  · rw [wq_up_at (by decide), wq_up_at (by decide), wq_up_same]
  · rw [wq_up_at (by decide), wq_up_same]
  · rw [wq_up_at (by decide), y3.2, wq_up_same, k6]
  · rw [wq_up_at (by decide)]; exact y3.1
end
