/-! ===== a17: the operand ... (wip/whole2/lawa17.py) ===== -/
theorem rd_dots {F : wq_F} {ls : List (List Nat)} {T : Nat → Nat} {n M i : Nat} (hM : tk_M T n M) (h : pm_at T n M i F ls) (hk : tk_k T n i = 5 ∧ tk_V T n (tk_pos T n i) = 301) : dk_238 F = (dk_212 (wq_up F 0 64 4294967295)).bind fun y62 => if y62.1 = 0 then some (0, y62.2) else (dk_218 y62.2).bind fun y67 => od_g (y67.1 < 51) <| if (y67.2 16 y67.1) = 0 then dk_209 y67.2 4 (tk_pos T n i) else (dk_30 y67.2 30 1 0 0).bind fun y73 => od_up y73.2 0 64 y73.1 fun F77 => some (1, F77) := by
  have h1 : pm_at T n M i (wq_up F 0 64 4294967295) ls := pm_at_x h (fun d j a b => wq_up_cell (by omega)) (fun j hj => wq_up_ne (by omega))
  have hb := pm_b hM h1
  have hkd := pm_kind h1
  unfold dk_238
  rw [od_upS]
  rw [od_g1 hb]
  rw [if_neg (show ¬ _ by omega)]
  rw [od_g1 hb]
  rw [if_neg (show ¬ _ by omega)]
  rw [pm_isWord hM h1 (by decide), od_bS]
  dsimp only
  rw [if_ck]
  rw [if_neg (by omega)]
  rw [pm_isWord hM h1 (by decide), od_bS]
  dsimp only
  rw [if_ck]
  rw [if_neg (by omega)]
  rw [pm_isWord hM h1 (by decide), od_bS]
  dsimp only
  rw [if_ck]
  rw [if_neg (by omega)]
  rw [pm_isSign hM h1 (by decide), od_bS]
  dsimp only
  rw [if_ck, if_pos hk, pm_here hM h1, od_bS]
  simp only [od_bI]
section
variable {nn : Nat} {T : Nat → Nat} {n M O : Nat} {G0 : wq_F} {c0 : List (List Nat)} {i t w s nw ns np N : Nat} {off voff ph : Nat → Nat} {cx : Nat → List Nat} {c cb : List Nat} {W : List (Nat × Nat × Nat × Nat)} {L : List (Nat × Nat)} {P Q : List (Nat × Nat × Nat)} {ls cs : List (List Nat)} {F G : wq_F}

/-- 4 refused: 3 at the token that is one too much -/
theorem bt_f4 {B : Nat} (hM : tk_M T n M) (hr : ry T n M i ls t w nw np W L P F) (hc : cy T n G0 c0 O i cs s ns np N Q G) (hb : bz N off voff ph cx c np F ls G cs) (h6 : ¬ tk_k T n i = 6) (hs : s ≤ B) (hns : ns ≤ 10000) (hnf : np ≤ 50) (hQ : Q.length ≤ 440) : wok (dk_109 G 4) (fun _ K => sx T n G0 c0 O (if i = 1500 then 3 else 4) (tk_pos T n i) N B K) := by
  have hM1 := hM.1
  have hi := hr.1.2.2.1
  obtain ⟨h0, ⟨h1, h2, h3, h4⟩, _⟩ := hc.1
  rw [if_neg h6] at h4
  obtain ⟨H, d, hs', hf⟩ := px_refuse (G := G) (c := 4) h0 (by decide) (by omega)
  refine wok_e d (sx_in hc hb ?_ hf (by omega) hs hns hnf hQ)
  rw [h2, h3, if_neg (show ¬ (4 = 2 ∧ G 57 4 = 1) from fun z => absurd z.1 (by decide)), h4] at hs'
  by_cases q : i = 1500
  · rw [if_pos ⟨rfl, by omega⟩] at hs'
    rw [if_pos q]
    exact hs'
  · rw [if_neg (fun z => q (by omega))] at hs'
    rw [if_neg q]
    exact hs'
theorem op_dots {R : dk_Rt} {D : Nat} (hM : tk_M T n M) (hr : ry T n M i ls t w nw np W L P F) (hc : cy T n G0 c0 O i cs s ns np N Q G) (hb : bz N off voff ph cx c np F ls G cs) (hn : 10000 < nn) (hc0 : c0.length ≤ 1400) (hO : O ≤ 20000) (hB : bnd i w s nw ns np t (hg c) W L P Q N) (hk : tk_k T n i = 5 ∧ tk_V T n (tk_pos T n i) = 301) : wok (dk_150 R nn G D) (fun r K => O_ok nn T n M G0 c0 O N off voff ph cx cb F G i ls cs w s nw ns np c t W L P Q (dk_238 F) 6210 r K) := by
  have h57 : G 57 4 = 65 := hc.1.2.1.1.trans ((tk_ty_sign (c := 301) (by decide)).mpr hk)
  obtain ⟨m1, m2, m3, m4, m5, m6, m7, m8, m9, m10, m11, m12⟩ := hB
  have hiM := hr.1.2.2.1
  have hM1 := hM.1
  have hM3 := hM.2.2.1
  obtain ⟨n1, n2, n3, n4, _⟩ := hb.1.1
  obtain ⟨_, _, _, _, n5, n6⟩ := hb.1.2.1 (N - 1) (by omega)
  have vf := (hb.2.2.2.2.2.2.1 (N - 1) (by omega)).1
  have e161 : dk_161 G = some (G 62 (N - 1), G) := by
    unfold dk_161
    rw [od_g1 (by omega), show G 59 8 = N - 1 by omega]
  have hd := rd_dots hM hr.1 hk
  have hr1 : ry T n M i ls t w nw np W L P (wq_up F 0 64 4294967295) := ry_up hr (by unfold ry_n; omega)
  have b1 : bz N off voff ph cx c np (wq_up F 0 64 4294967295) ls G cs := bz_fu hb (by omega)
  have f1 : rm_fr F (wq_up F 0 64 4294967295) := rm_fr_up (rm_fr_refl _) (by decide) (by decide)
  have x1 : ∀ d j, ¬ (d = 0 ∧ j = 64) → wq_up F 0 64 4294967295 d j = F d j := fun d j q => wq_up_ne q
  generalize wq_up F 0 64 4294967295 = F1 at *
  have hw1 : F1 0 41 = w := hr1.2.1.2.1
  have htk := pm_take hM hr1.1 (by omega)
  unfold dk_150
  refine wok_l (wok_f (by omega) (wok_f (by omega) (wok_f (by omega) (wok_f (by omega) (wok_f (by omega) (wok_f (by omega) (wok_f (by omega) (wok_t h57 ?_))))))))
  rw [e161, od_bS]
  dsimp only
  refine wok_g n6 ?_
  -- the reference behind the token
  have ref : i < M → dk_218 (wq_up F1 0 25 (i + 1)) = some (G 62 (N - 1), wq_up F1 0 25 (i + 1)) ∧ wq_up F1 0 25 (i + 1) 16 (G 62 (N - 1)) = G 22 (G 62 (N - 1)) := fun iM => by
    have y53 : wq_up F1 0 25 (i + 1) 0 53 = N - 1 := by
      rw [wq_up_at (by decide), x1 0 53 (by decide)]
      omega
    refine ⟨?_, ?_⟩
    · unfold dk_218
      rw [y53, od_g1 (by omega), wq_up_cell (by decide), x1 32 _ (by omega), n5]
    · rw [wq_up_cell (by decide), x1 16 _ (by omega)]
      exact vf
  by_cases q22 : G 22 (G 62 (N - 1)) = 0
  · refine wok_t q22 ?_
    refine wok_b (bt_f4 (B := 6200) hM hr hc hb (by omega) (by omega) (by omega) m5 (by omega)) fun r K h => ?_
    dsimp only
    unfold dk_150_191
    refine wok_b (sx_77 h) fun r K h => ?_
    dsimp only
    refine wok_b (sx_78 h (by decide) (okj_p (by decide))) fun r K h => ?_
    dsimp only
    refine wok_b (sx_163 h.2) fun r K h => wok_r (Or.inr ⟨_, _, ?_, sx_le h (by decide)⟩)
    by_cases q : i = 1500
    · rw [if_pos q] at htk ⊢
      rw [htk, od_bS] at hd
      exact rba_f (hd.trans (if_pos rfl)) f1 (by rw [hw1]; omega)
    · have iM : i < M := Nat.lt_of_le_of_ne hiM (fun z => by
        rw [← z] at hM3
        omega)
      rw [if_neg q] at htk ⊢
      obtain ⟨y1, y2⟩ := ref iM
      have hr2 := ry_nx hr1 iM
      rw [htk, od_bS] at hd
      dsimp only at hd
      rw [if_neg (by decide), y1, od_bS] at hd
      dsimp only at hd
      rw [od_g1 (by omega), if_pos (y2.trans q22), pm_fail hr2.1] at hd
      exact rba_f hd (rm_fr_up f1 (by decide) (by decide)) (by rw [hr2.2.1.2.1]; omega)
  · refine wok_f q22 ?_
    unfold dk_150_191
    refine wok_b (bt_77 (B := 6200) hM hr1 hc b1 (by omega) (by omega) (by omega) hc0 hO (by omega) (by omega) m5 (by omega)) fun r1 K1 h1 => ?_
    dsimp only
    rcases h1 with ⟨iM, e2, ms, c2, b2, f2, p2⟩ | ⟨e2, hx⟩
    · obtain ⟨y1, y2⟩ := ref iM
      have hr2 := ry_nx hr1 iM
      rw [e2, od_bS] at hd
      dsimp only at hd
      rw [if_neg (by decide), y1, od_bS] at hd
      dsimp only at hd
      rw [od_g1 (by omega), if_neg (fun z => q22 (y2.symm.trans z))] at hd
      have b2' : bz N off voff ph cx c np (wq_up F1 0 25 (i + 1)) ls K1 ms := bz_fu b2 (by omega)
      have ff2 : rm_fr F (wq_up F1 0 25 (i + 1)) := rm_fr_up f1 (by decide) (by decide)
      have x2 : ∀ d j, ¬ d = 0 → wq_up F1 0 25 (i + 1) d j = F d j := fun d j q => (wq_up_cell q).trans (x1 d j (by omega))
      generalize wq_up F1 0 25 (i + 1) = F2 at *
      have hw2 : F2 0 41 = w := hr2.2.1.2.1
      rw [dkS_30 (by omega), od_bS] at hd
      dsimp only at hd
      rw [od_upS, hw2] at hd
      have hr3 : ry T n M (i + 1) ls t (w + 1) nw np W L P (wq_up (pm_em F2 30 1 0 0) 0 64 w) := ry_up (ry_em hr2) (by unfold ry_n; omega)
      have b3 : bz N off voff ph cx c np (wq_up (pm_em F2 30 1 0 0) 0 64 w) ls K1 ms := bz_fu (bz_em b2') (by omega)
      have hat := pm_em_at (F := F2) (op := 30) (a := 1) (b := 0) (ln := 0)
      rw [hw2] at hat
      have x3 : ∀ d j, ¬ (20 ≤ d ∧ d ≤ 23 ∧ j = w) → ¬ d = 0 → wq_up (pm_em F2 30 1 0 0) 0 64 w d j = F d j := fun d j q q0 => by
        rw [wq_up_cell q0, pm_em_ne (by omega) (by omega), x2 d j q0]
      have y20 : wq_up (pm_em F2 30 1 0 0) 0 64 w 20 w = 30 := (wq_up_cell (by decide)).trans hat.1
      have y21 : wq_up (pm_em F2 30 1 0 0) 0 64 w 21 w = 1 := (wq_up_cell (by decide)).trans hat.2.1
      have y64 : wq_up (pm_em F2 30 1 0 0) 0 64 w 0 64 = w := wq_up_same _ _ _ _
      have ff3 : rm_fr F (wq_up (pm_em F2 30 1 0 0) 0 64 w) := rm_fr_up (rm_fr_em ff2) (by decide) (by decide)
      generalize wq_up (pm_em F2 30 1 0 0) 0 64 w = F3 at *
      refine wok_b (cy_78 c2 b3 (by omega) (okj_p (by decide))) fun r K2 h2 => ?_
      dsimp only
      obtain ⟨er, c3, b4, i3, q3, _⟩ := h2
      refine wok_b (cy_163 (d := 0 :: c) c3 b4 (by rw [hg_0]; omega) (fun k _ _ h => cx_at_c h) (bz_c0 b4 (by decide))) fun r K3 h3 => wok_r ?_
      obtain ⟨c5, b5, q5, _⟩ := h3
      have qq : qf s ns G K3 := qf_trans (qf_fr (s := s) (ns := ns) f2) (qf_trans q3 q5 (by omega) (Nat.le_refl _)) (Nat.le_refl _) (Nat.le_refl _)
      have j12 : K3 12 s = 17 := (q5 12 s (by omega)).trans i3.1
      have j14 : K3 14 s = 1 := (q5 14 s (by omega)).trans i3.2.2.1
      refine Or.inl ⟨i + 1, w + 1, s + 1, nw, ns, np, ls, ms, F3, rgo_i hd (by decide) hr3.1.1 ff3, ⟨hr3, c5, b5, ?_, ⟨st_sf_refl _, p2, ⟨fun l _ => ⟨qq 62 l (by omega), qq 65 l (by omega)⟩, fun l _ e6 h6 => qq e6 l (by omega)⟩⟩, Nat.le_succ _, m5⟩, ⟨by omega, by omega, by omega, by omega, by omega⟩, Or.inr ⟨rfl, by rw [y64], by omega, by omega, ?_⟩⟩
      · refine pj_1 ⟨by omega, by omega, by omega, by omega⟩ (fun d j q => x3 d j (by omega) (by omega)) (fun d j q => qq d j (by omega)) (fun H J nm ha2 hb2 _ => Or.inr ⟨4, ?_, ?_, Or.inl ⟨?_, ?_, rfl⟩⟩)
        · rw [ha2.1 20 w (by decide) (by decide) (by omega) (by omega)]; exact y20
        · rw [hb2.1 12 s (by decide) (by decide) (by omega) (by omega)]; exact j12
        · rw [ha2.1 21 w (by decide) (by decide) (by omega) (by omega)]; exact y21
        · rw [hb2.1 14 s (by decide) (by decide) (by omega) (by omega)]; exact j14
      · rw [Nat.add_sub_cancel, Nat.add_sub_cancel]
        refine pj_1 ⟨by omega, by omega, by omega, by omega⟩ (fun d j q => (wq_up_ne (by omega)).trans (x3 d j (by omega) (by omega))) (fun d j q => (wq_up_ne (by omega)).trans (qq d j (by omega))) (fun H J nm ha2 hb2 _ => Or.inr ⟨4, ?_, ?_, Or.inr ⟨?_, ?_, rfl⟩⟩)
        · rw [ha2.1 20 w (by decide) (by decide) (by omega) (by omega), wq_up_cell (by decide)]; exact y20
        · rw [hb2.1 12 s (by decide) (by decide) (by omega) (by omega), wq_up_cell (by decide)]; exact j12
        · rw [ha2.1 21 w (by decide) (by decide) (by omega) (by omega), wq_up_same]
        · rw [hb2.1 14 s (by decide) (by decide) (by omega) (by omega), wq_up_same]
    · rw [e2, od_bS] at hd
      have ho := rba_f (hd.trans (if_pos rfl)) f1 (show F1 0 41 < 13999 by omega) (nn := nn)
      refine wok_b (sx_78 hx (by decide) (okj_p (by decide))) fun r K h => ?_
      dsimp only
      exact wok_b (sx_163 h.2) fun r K h => wok_r (Or.inr ⟨_, _, ho, sx_le h (by decide)⟩)
end
