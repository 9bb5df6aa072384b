/-! ===== a06: fields without a key (wip/whole2/lawa06.py) ===== -/
section
variable {nn : Nat} {T : Nat → Nat} {n M O : Nat} {G0 : wq_F} {c0 : List (List Nat)} {i t w s nw ns np N : Nat} {off voff ph : Nat → Nat} {cx : Nat → List Nat} {c cb : List Nat} {W : List (Nat × Nat × Nat × Nat)} {L : List (Nat × Nat)} {P Q : List (Nat × Nat × Nat)} {ls cs : List (List Nat)} {F G : wq_F}

theorem opn_x {A B H K H' K' : wq_F} {w' s' nw' ns' np' : Nat} {ls' cs' ms : List (List Nat)} (h : opn cb N A B w s nw ns np c H K ls' cs' w' s' nw' ns' np') (h0 : ∀ d j, ¬ d = 0 → H' d j = H d j) (h64 : H' 0 64 = H 0 64) (hK : qf s' ns' K K') (hm : st_pre cs' ms) (hN : 1 ≤ N) (h62 : ∀ l, l < N → B 62 l < np) : opn cb N A B w s nw ns np c H' K' ls' ms w' s' nw' ns' np' := by
  obtain ⟨a1, a2, a3, a4⟩ := h
  refine ⟨by rw [h64]; exact a1, a2, a3, pj_t a4 (pj_n (fun d j q => ?_) (fun d j q => ?_)) (st_pre_refl _) hm (fun g hg ⟨l, l1, l2⟩ => by have := h62 l l1; omega) (h62 (N - 1) (by omega))⟩
  · by_cases z : d = 21 ∧ j = w' - 1
    · rw [z.1, z.2, wq_up_same, wq_up_same]
    · rw [wq_up_ne z, wq_up_ne z]
      exact h0 d j (by omega)
  · by_cases z : d = 14 ∧ j = s' - 1
    · rw [z.1, z.2, wq_up_same, wq_up_same]
    · rw [wq_up_ne z, wq_up_ne z]
      exact hK d j (by omega)
/-- a field without a key -/
theorem pos_field {D k pos m : Nat} (hM : tk_M T n M) (hE : E_ok nn T n M G0 c0 O (D + 2)) (hk : 20 * (22 - (D + 2)) + 21 ≤ k) (htD : t = D) (hD : D ≤ 19) (hr : ry T n M i ls (t + 1) w nw np ((3, 0, 0, 0) :: (18, pos, m, 0) :: W) L P F) (hc : cy T n G0 c0 O i cs s ns np N Q G) (hb : bz N off voff ph cx (1 :: 0 :: c) np F ls G cs) (hn : 10000 < nn) (hc0 : c0.length ≤ 1400) (hO : O ≤ 20000) (hB : bnd i w s nw ns np (t + 1) (hg (1 :: 0 :: c)) ((18, pos, m, 0) :: W) L P Q N) (hm : m < 100) (hpos : pos < 100) :
    wok (dk_R nn k 154 [D, pos, hg c] G) (fun _ K => (∃ i' w' s' nw' ns' np' ls' cs' H, (rm_to nn F H ∧ rm_fr F H) ∧ eg T n M G0 c0 O N off voff ph cx cb F G i ls cs w s nw ns np (1 :: 0 :: c) t ((15, pos + 1, m + 1, 0) :: W) L P Q H K i' ls' cs' w' s' nw' ns' np' (0 :: c) ∧ (i < i' ∧ w' + 6 * i ≤ w + 6 * i' + 1 ∧ s' + 4 * i ≤ s + 4 * i' + 1 ∧ nw' + i ≤ nw + i' ∧ ns' + i ≤ ns + i') ∧ ((w' + 6 * i + 5 ≤ w + 6 * i' ∧ s' + 4 * i + 3 ≤ s + 4 * i') ∨ (tk_k T n i' = 5 ∧ tk_V T n (tk_pos T n i') = 125))) ∨ ∃ e p, rm_out nn e p F ∧ sx T n G0 c0 O e p N (zz (t + 2) + 71) K) := by
  subst htD
  have hB0 := hB
  obtain ⟨m1, m2, m3, m4, m5, m6, m7, m8, m9, m10, m11, m12⟩ := hB0
  have m8 : W.length + 1 ≤ 20 * (t + 1) + 20 := m8
  have h62 := hb.2.2.2.2.2.1
  have hM1 := hM.1
  have hN := hb.1.1.1
  rw [hg_1, hg_0] at m7
  have hz : 6310 ≤ zz (t + 2) + 71 ∧ zz (t + 2) < 9800 := by unfold zz; omega
  obtain ⟨k, rfl⟩ : ∃ m, k = m + 1 := ⟨k - 1, by omega⟩
  rw [dk_Re_154]
  unfold dk_154
  rw [Nat.mod_eq_of_lt (show t + 2 < 4294967296 by omega)]
  refine wok_b (hE k 0 0 i (t + 1) w s nw ns np N off voff ph cx (1 :: 0 :: c) cb ((18, pos, m, 0) :: W) L P Q ls cs F G (by omega) (Or.inl ⟨rfl, by decide⟩) rfl hr hc hb hB) fun r1 K1 h1 => ?_
  dsimp only
  have tl : ∀ (e p B : Nat) (K : wq_F), sx T n G0 c0 O e p N B K → B ≤ zz (t + 2) + 70 → rm_out nn e p F → wok (if r1 = 0 then (dk_112 K 15 pos 0 4294967295).bind fun y10 => some (0, y10.2) else if (K 57 4) = 54 then (dk_158 K 4294967295).bind fun y19 => (dk_78 y19.2 16 pos (hg c) 0).bind fun y23 => (dk_163 y23.2 4294967295).bind fun y27 => some (0, y27.2) else (dk_112 K 15 pos 0 4294967295).bind fun y15 => some (0, y15.2)) (fun _ K => (∃ i' w' s' nw' ns' np' ls' cs' H, (rm_to nn F H ∧ rm_fr F H) ∧ eg T n M G0 c0 O N off voff ph cx cb F G i ls cs w s nw ns np (1 :: 0 :: c) t ((15, pos + 1, m + 1, 0) :: W) L P Q H K i' ls' cs' w' s' nw' ns' np' (0 :: c) ∧ (i < i' ∧ w' + 6 * i ≤ w + 6 * i' + 1 ∧ s' + 4 * i ≤ s + 4 * i' + 1 ∧ nw' + i ≤ nw + i' ∧ ns' + i ≤ ns + i') ∧ ((w' + 6 * i + 5 ≤ w + 6 * i' ∧ s' + 4 * i + 3 ≤ s + 4 * i') ∨ (tk_k T n i' = 5 ∧ tk_V T n (tk_pos T n i') = 125))) ∨ ∃ e p, rm_out nn e p F ∧ sx T n G0 c0 O e p N (zz (t + 2) + 71) K) := fun e p B K h hB ho => by
    have l : wok ((dk_112 K 15 pos 0 4294967295).bind fun y10 => some (0, y10.2)) (fun _ K => (∃ i' w' s' nw' ns' np' ls' cs' H, (rm_to nn F H ∧ rm_fr F H) ∧ eg T n M G0 c0 O N off voff ph cx cb F G i ls cs w s nw ns np (1 :: 0 :: c) t ((15, pos + 1, m + 1, 0) :: W) L P Q H K i' ls' cs' w' s' nw' ns' np' (0 :: c) ∧ (i < i' ∧ w' + 6 * i ≤ w + 6 * i' + 1 ∧ s' + 4 * i ≤ s + 4 * i' + 1 ∧ nw' + i ≤ nw + i' ∧ ns' + i ≤ ns + i') ∧ ((w' + 6 * i + 5 ≤ w + 6 * i' ∧ s' + 4 * i + 3 ≤ s + 4 * i') ∨ (tk_k T n i' = 5 ∧ tk_V T n (tk_pos T n i') = 125))) ∨ ∃ e p, rm_out nn e p F ∧ sx T n G0 c0 O e p N (zz (t + 2) + 71) K) := by
      refine wok_b (sx_112 h (by omega)) fun r K h => ?_
      exact wok_r (Or.inr ⟨e, p, ho, sx_le h (by omega)⟩)
    exact wok_i (fun _ => l) (fun _ => wok_f (sx_ne h (by decide)) l)
  rcases h1 with ⟨i1, w1, s1, nw1, ns1, np1, ls1, cs1, H1, g1, eg1, rt, ho⟩ | ⟨e, p, ho, hx⟩
  · obtain ⟨rt1, rt2, rt3, rt4, rt5⟩ := rt
    have hi1 := eg1.1.1.2.2.1
    have hnp1 := eg1.2.2.2.2.2.2
    have hp := ry_pop eg1.1
    have h2 := ry_0 (j := 47) (v := t) hp (by decide)
    rw [if_pos rfl, if_neg (by decide), if_neg (by decide)] at h2
    have f2 : rm_fr H1 (wq_up (wq_up H1 0 46 W.length) 0 47 t) := rm_fr_up (rm_fr_up (rm_fr_refl _) (by decide) (by decide)) (by decide) (by decide)
    have x2 : ∀ d j, ¬ d = 0 → wq_up (wq_up H1 0 46 W.length) 0 47 t d j = H1 d j := fun d j q => by rw [wq_up_cell q, wq_up_cell q]
    have b2 := bz_fu (d := 0) (j := 47) (v := t) (bz_fu (d := 0) (j := 46) (v := W.length) eg1.2.2.1 (by omega)) (by omega)
    have h64 : wq_up (wq_up H1 0 46 W.length) 0 47 t 0 64 = H1 0 64 := by rw [wq_up_at (by decide), wq_up_at (by decide)]
    have h5 : wq_up (wq_up H1 0 46 W.length) 0 47 t 0 50 = H1 0 50 ∧ wq_up (wq_up H1 0 46 W.length) 0 47 t 0 53 = H1 0 53 := ⟨by rw [wq_up_at (by decide), wq_up_at (by decide)], by rw [wq_up_at (by decide), wq_up_at (by decide)]⟩
    have hg1 := fun H => ry_go (nn := nn) (H := H) eg1.1 (by show W.length < 4000; omega)
    have hb1 := fun k p => ry_ba (nn := nn) (k := k) (p := p) eg1.1 (by show W.length < 4000; omega)
    have hd : dk_32 nn (wq_up H1 0 46 W.length) (18, pos, m, 0).1 (18, pos, m, 0).2.1 (18, pos, m, 0).2.2.1 (18, pos, m, 0).2.2.2 = (dk_250 (wq_up (wq_up H1 0 46 W.length) 0 47 t)).bind fun y7 => if y7.1 = 0 then dk_252_35 y7.2 pos m (H1 0 64) y7.1 else (dk_212 y7.2).bind fun y12 => if y12.1 = 0 then some (0, y12.2) else dk_252_35 y12.2 pos m (H1 0 64) y7.1 := by
      show dk_32 nn (wq_up H1 0 46 W.length) 18 pos m 0 = _
      rw [dk32_18, od_bI]
      unfold dk_252
      rw [hp.2.1.1, od_letS, show (t + 1 + (4294967296 - 1)) % 4294967296 = t by omega, od_upS, h64]
    generalize wq_up (wq_up H1 0 46 W.length) 0 47 t = F4 at *
    have eg4 := eg_0 eg1 h2 x2 h5 h62
    -- what stands behind is known
    have fini : ∀ (Fx Kx : wq_F) (ix : Nat) (ms : List (List Nat)), ry T n M ix ls1 t w1 nw1 np1 W L P Fx → eg T n M G0 c0 O N off voff ph cx cb F G i ls cs w s nw ns np (1 :: 0 :: c) t W L P Q Fx Kx ix ls1 ms w1 s1 nw1 ns1 np1 (0 :: 1 :: 0 :: c) → (r1 = 1 → opn cb N F G w s nw ns np (1 :: 0 :: c) Fx Kx ls1 ms w1 s1 nw1 ns1 np1) → dk_32 nn (wq_up H1 0 46 W.length) (18, pos, m, 0).1 (18, pos, m, 0).2.1 (18, pos, m, 0).2.2.1 (18, pos, m, 0).2.2.2 = dk_252_54 Fx pos m (H1 0 64) → rm_fr H1 Fx → (ix = i1 + 1 ∨ (ix = i1 ∧ tk_k T n i1 = 5 ∧ tk_V T n (tk_pos T n i1) = 125)) →
        wok (if r1 = 0 then (dk_112 Kx 15 pos 0 4294967295).bind fun y10 => some (0, y10.2) else if (Kx 57 4) = 54 then (dk_158 Kx 4294967295).bind fun y19 => (dk_78 y19.2 16 pos (hg c) 0).bind fun y23 => (dk_163 y23.2 4294967295).bind fun y27 => some (0, y27.2) else (dk_112 Kx 15 pos 0 4294967295).bind fun y15 => some (0, y15.2)) (fun _ K => (∃ i' w' s' nw' ns' np' ls' cs' H, (rm_to nn F H ∧ rm_fr F H) ∧ eg T n M G0 c0 O N off voff ph cx cb F G i ls cs w s nw ns np (1 :: 0 :: c) t ((15, pos + 1, m + 1, 0) :: W) L P Q H K i' ls' cs' w' s' nw' ns' np' (0 :: c) ∧ (i < i' ∧ w' + 6 * i ≤ w + 6 * i' + 1 ∧ s' + 4 * i ≤ s + 4 * i' + 1 ∧ nw' + i ≤ nw + i' ∧ ns' + i ≤ ns + i') ∧ ((w' + 6 * i + 5 ≤ w + 6 * i' ∧ s' + 4 * i + 3 ≤ s + 4 * i') ∨ (tk_k T n i' = 5 ∧ tk_V T n (tk_pos T n i') = 125))) ∨ ∃ e p, rm_out nn e p F ∧ sx T n G0 c0 O e p N (zz (t + 2) + 71) K) := fun Fx Kx ix ms hrx ex ox hdx fx hix => by
      have hw : Fx 0 41 = w1 := hrx.2.1.2.1
      have h46 : Fx 0 46 = W.length := hrx.2.2.1.1
      have k57 : Kx 57 4 = tk_ty T n (tk_pos T n ix) := ex.2.1.1.2.1.1
      have s125 := tk_ty_sign (T := T) (n := n) (p := tk_pos T n ix) (c := 125) (by decide)
      have nums : ∀ s2, s2 ≤ s1 + 1 → (i < ix ∧ (w1 + 1) + 6 * i ≤ w + 6 * ix + 1 ∧ s2 + 4 * i ≤ s + 4 * ix + 1 ∧ nw1 + i ≤ nw + ix ∧ ns1 + i ≤ ns + ix) ∧ (((w1 + 1) + 6 * i + 5 ≤ w + 6 * ix ∧ s2 + 4 * i + 3 ≤ s + 4 * ix) ∨ (tk_k T n ix = 5 ∧ tk_V T n (tk_pos T n ix) = 125)) := fun s2 hs2 => by
        rcases hix with e | ⟨e1, e2⟩
        · exact ⟨⟨by omega, by omega, by omega, by omega, by omega⟩, Or.inl ⟨by omega, by omega⟩⟩
        · subst e1
          exact ⟨⟨by omega, by omega, by omega, by omega, by omega⟩, Or.inr e2⟩
      have e102 : ∀ A : wq_F, A 0 46 = W.length → dk_252_102 A pos m = some (1, pm_la A 15 (pos + 1) (m + 1) 0) := fun A hA => by
        unfold dk_252_102
        rw [dkS_31 (by omega), od_bS, Nat.mod_eq_of_lt (show pos + 1 < 4294967296 by omega), Nat.mod_eq_of_lt (show m + 1 < 4294967296 by omega)]
      -- one value
      have oneV : ¬ ((tk_k T n ix = 5 ∧ tk_V T n (tk_pos T n ix) = 125) ∧ r1 = 1) → (r1 = 0 → H1 0 64 = 4294967295) → wok ((dk_112 Kx 15 pos 0 4294967295).bind fun y10 => some (0, y10.2)) (fun _ K => (∃ i' w' s' nw' ns' np' ls' cs' H, (rm_to nn F H ∧ rm_fr F H) ∧ eg T n M G0 c0 O N off voff ph cx cb F G i ls cs w s nw ns np (1 :: 0 :: c) t ((15, pos + 1, m + 1, 0) :: W) L P Q H K i' ls' cs' w' s' nw' ns' np' (0 :: c) ∧ (i < i' ∧ w' + 6 * i ≤ w + 6 * i' + 1 ∧ s' + 4 * i ≤ s + 4 * i' + 1 ∧ nw' + i ≤ nw + i' ∧ ns' + i ≤ ns + i') ∧ ((w' + 6 * i + 5 ≤ w + 6 * i' ∧ s' + 4 * i + 3 ≤ s + 4 * i') ∨ (tk_k T n i' = 5 ∧ tk_V T n (tk_pos T n i') = 125))) ∨ ∃ e p, rm_out nn e p F ∧ sx T n G0 c0 O e p N (zz (t + 2) + 71) K) := fun hno h0 => by
        have e54 : dk_252_54 Fx pos m (H1 0 64) = some (1, pm_la (pm_em Fx 28 pos 0 0) 15 (pos + 1) (m + 1) 0) := by
          have e1 : (dk_30 Fx 28 pos 0 0).bind (fun y6 => dk_252_102 y6.2 pos m) = some (1, pm_la (pm_em Fx 28 pos 0 0) 15 (pos + 1) (m + 1) 0) := by
            rw [dkS_30 (by omega), od_bS]
            exact e102 (pm_em Fx 28 pos 0 0) ((pm_em_ne (by omega) (by omega)).trans h46)
          unfold dk_252_54
          rw [pm_isSign hM hrx.1 (by decide), od_bS]
          dsimp only
          rw [if_ck]
          by_cases q : tk_k T n ix = 5 ∧ tk_V T n (tk_pos T n ix) = 125
          · rw [if_pos q]
            have r0 : r1 = 0 := by
              rcases ho with z | z
              · exact z.1
              · exact absurd ⟨q, z.1⟩ hno
            rw [if_pos (by have := h0 r0; omega)]
            exact e1
          · rw [if_neg q]
            exact e1
        have hr6 : ry T n M ix ls1 t (w1 + 1) nw1 np1 ((15, pos + 1, m + 1, 0) :: W) L P (pm_la (pm_em Fx 28 pos 0 0) 15 (pos + 1) (m + 1) 0) := ry_la (ry_em hrx)
        have hat := pm_em_at (F := Fx) (op := 28) (a := pos) (b := 0) (ln := 0)
        rw [hw] at hat
        refine wok_b (cy_112 (d := 0 :: c) ex.2.1 ex.2.2.1 (by omega) (by rw [hg_0, hg_0, hg_1, hg_0]; omega) (fun k _ _ h => cx_at_c (cx_at_dn (a := [0, 1, 0]) (fun e he => by
          rcases List.mem_cons.mp he with z | he
          · omega
          rcases List.mem_cons.mp he with z | he
          · omega
          · have := List.mem_singleton.mp he; omega) h)) (fun e he => by
          rcases List.mem_cons.mp he with z | z
          · omega
          · exact bz_cd ex.2.2.1 (a := [0, 1, 0]) rfl e z)) fun r K hK => ?_
        dsimp only
        obtain ⟨k1, k2, k3, k4, k5⟩ := hK
        refine wok_r (Or.inl ⟨ix, w1 + 1, s1 + 1, nw1, ns1, np1, ls1, ms, _, ?_, eg_t ex (⟨hr6, k1, bz_la (bz_em k2), ?_, ⟨st_sf_refl _, st_pre_refl _, ⟨fun l _ => ⟨k4 62 l (by omega), k4 65 l (by omega)⟩, fun l _ e6 h6 => k4 e6 l (by omega)⟩⟩, Nat.le_refl _, hnp1⟩) h62, nums _ (Nat.le_refl _)⟩)
        · have g2 := hg1 _ (rgo_i (hdx.trans e54) (by decide) hr6.1.1 (rm_fr_la (rm_fr_em fx)))
          exact ⟨rm_trans g1.1 g2.1, rm_fr_trans g1.2 g2.2⟩
        · refine pj_1 ⟨by omega, by omega, by omega, by omega⟩ (fun d j q => by rw [pm_la_ne (by omega) (by omega), pm_em_ne (by omega) (by omega)]) (fun d j q => k4 d j (by omega)) (fun H J nm ha2 hb2 _ => Or.inr ⟨2, ?_, ?_, ?_, c, rfl, rfl⟩)
          · rw [ha2.1 20 w1 (by decide) (by decide) (by omega) (by omega), pm_la_ne (by omega) (by omega)]; exact hat.1
          · rw [hb2.1 12 s1 (by decide) (by decide) (by omega) (by omega)]; exact k3.1
          · rw [ha2.1 21 w1 (by decide) (by decide) (by omega) (by omega), pm_la_ne (by omega) (by omega), hat.2.1, hb2.1 13 s1 (by decide) (by decide) (by omega) (by omega)]; exact k3.2.1.symm
      rcases ho with ⟨a1, a2⟩ | ⟨a1, a2⟩
      · exact wok_t a1 (oneV (fun z => by omega) (fun _ => a2))
      · refine wok_f (by omega) ?_
        by_cases q : tk_k T n ix = 5 ∧ tk_V T n (tk_pos T n ix) = 125
        · refine wok_t (k57.trans (s125.mpr q)) ?_
          have oo := ox a1
          have oo2 := oo
          obtain ⟨o1, o2, o3, o4⟩ := oo2
          have hv64 : H1 0 64 = w1 - 1 := by have := a2.1; omega
          refine wok_b (opn_all ex oo hrx (fun _ _ _ => rfl) ⟨rfl, rfl⟩ h62 (by omega)) fun r2 K2 e2 => ?_
          dsimp only
          have hw3 : wq_up Fx 21 (w1 - 1) 4294967295 0 41 = w1 := (wq_up_cell (by decide)).trans hw
          have e54 : dk_252_54 Fx pos m (H1 0 64) = some (1, pm_la (pm_em (wq_up Fx 21 (w1 - 1) 4294967295) 29 pos 0 0) 15 (pos + 1) (m + 1) 0) := by
            unfold dk_252_54
            rw [pm_isSign hM hrx.1 (by decide), od_bS]
            dsimp only
            rw [if_ck, if_pos q, if_neg (by omega), od_g1 (by omega), od_upS, hv64, dkS_30 (by omega), od_bS]
            exact e102 (pm_em (wq_up Fx 21 (w1 - 1) 4294967295) 29 pos 0 0) ((pm_em_ne (by omega) (by omega)).trans ((wq_up_cell (by decide)).trans h46))
          have hr6 : ry T n M ix ls1 t (w1 + 1) nw1 np1 ((15, pos + 1, m + 1, 0) :: W) L P (pm_la (pm_em (wq_up Fx 21 (w1 - 1) 4294967295) 29 pos 0 0) 15 (pos + 1) (m + 1) 0) := ry_la (ry_em e2.1)
          have hat := pm_em_at (F := wq_up Fx 21 (w1 - 1) 4294967295) (op := 29) (a := pos) (b := 0) (ln := 0)
          rw [hw3] at hat
          have hixM := hrx.1.2.2.1
          refine wok_b (cy_78 e2.2.1 e2.2.2.1 (by omega) (okj_p (by omega))) fun r3 K3 hK => ?_
          dsimp only
          obtain ⟨er, k1, k2, k3, k4, k5⟩ := hK
          refine wok_b (cy_163 (d := 0 :: c) k1 k2 (by rw [hg_0, hg_2, hg_1, hg_0]; omega) (fun k _ _ h => cx_at_c (cx_at_dn (a := [2, 1, 0]) (fun e he => by
            rcases List.mem_cons.mp he with z | he
            · omega
            rcases List.mem_cons.mp he with z | he
            · omega
            · have := List.mem_singleton.mp he; omega) h)) (fun e he => by
            rcases List.mem_cons.mp he with z | z
            · omega
            · exact bz_cd k2 (a := [2, 1, 0]) rfl e z)) fun r4 K4 hK => ?_
          dsimp only
          obtain ⟨l1, l2, l3, l4⟩ := hK
          refine wok_r (Or.inl ⟨ix, w1 + 1, s1 + 1, nw1, ns1, np1, ls1, ms, _, ?_, eg_t e2 (⟨hr6, l1, bz_la (bz_em l2), ?_, ⟨st_sf_refl _, st_pre_refl _, ⟨fun l _ => ⟨(l3 62 l (by omega)).trans (k4 62 l (by omega)), (l3 65 l (by omega)).trans (k4 65 l (by omega))⟩, fun l _ e6 h6 => (l3 e6 l (by omega)).trans (k4 e6 l (by omega))⟩⟩, Nat.le_refl _, hnp1⟩) h62, nums _ (Nat.le_refl _)⟩)
          · have g2 := hg1 _ (rgo_i (hdx.trans e54) (by decide) hr6.1.1 (rm_fr_la (rm_fr_em (rm_fr_up fx (by decide) (fun z => absurd z (by decide))))))
            exact ⟨rm_trans g1.1 g2.1, rm_fr_trans g1.2 g2.2⟩
          · refine pj_1 ⟨by omega, by omega, by omega, by omega⟩ (fun d j q => by rw [pm_la_ne (by omega) (by omega), pm_em_ne (by omega) (by omega)]) (fun d j q => (l3 d j (by omega)).trans (k4 d j (by omega))) (fun H J nm ha2 hb2 _ => Or.inr ⟨3, ?_, ?_, ?_, c, rfl, ?_, rfl⟩)
            · rw [ha2.1 20 w1 (by decide) (by decide) (by omega) (by omega), pm_la_ne (by omega) (by omega)]; exact hat.1
            · rw [hb2.1 12 s1 (by decide) (by decide) (by omega) (by omega), l3 12 s1 (by omega)]; exact k3.1
            · rw [ha2.1 21 w1 (by decide) (by decide) (by omega) (by omega), pm_la_ne (by omega) (by omega), hat.2.1, hb2.1 13 s1 (by decide) (by decide) (by omega) (by omega), l3 13 s1 (by omega)]; exact k3.2.1.symm
            · rw [hb2.1 14 s1 (by decide) (by decide) (by omega) (by omega), l3 14 s1 (by omega)]; exact k3.2.2.1
        · refine wok_f (fun z => q (s125.mp (k57.symm.trans z))) (oneV (fun z => q z.1) (fun z => by omega))
    refine wok_b (bt_sep (B := 6200) hM h2 eg1.2.1 b2 hn hc0 hO (by omega) (by omega) hnp1 (by omega)) fun r K h => ?_
    dsimp only
    rcases pm_part hM h2 with ⟨q, e⟩ | ⟨q, e⟩
    · rw [e, od_bS] at hd
      dsimp only at hd
      rw [if_neg (by decide)] at hd
      rcases h with ⟨_, iM, e2, ms, c2, b2', f2', p2⟩ | ⟨_, e2, hx⟩ | ⟨z, _⟩ | ⟨z, _⟩
      · rw [e2, od_bS] at hd
        dsimp only at hd
        have hr5 := ry_nx h2 iM
        refine fini (wq_up F4 0 25 (i1 + 1)) K (i1 + 1) ms hr5 (eg_t eg4 (eg_n hr5 c2 (bz_fu b2' (by omega)) (fun d j q => wq_up_cell (by omega)) (qf_fr f2') p2 (Nat.le_succ _) hnp1) h62) (fun z => ?_) (hd.trans ?_) (rm_fr_up f2 (by decide) (by decide)) (Or.inl rfl)
        · rcases ho with y | y
          · omega
          · exact opn_x y.2 (fun d j q => (wq_up_cell q).trans (x2 d j q)) ((wq_up_at (by decide)).trans h64) (qf_fr f2') p2 hN h62
        · rw [if_neg (by decide)]
          unfold dk_252_35
          rw [if_neg (by decide)]
      · rw [e2, od_bS] at hd
        exact tl _ _ _ _ hx (by omega) (rm_to_out g1.1 g1.2 (hb1 _ _ (rba_f (hd.trans (if_pos rfl)) f2 (by rw [h2.2.1.2.1]; omega))))
      · exact absurd q z
      · exact absurd q z
    · rw [e, od_bS] at hd
      dsimp only at hd
      rw [if_pos rfl] at hd
      unfold dk_252_35 at hd
      rw [if_pos rfl, pm_isSign hM h2.1 (by decide), od_bS] at hd
      dsimp only at hd
      rw [if_ck] at hd
      rcases h with ⟨z, _⟩ | ⟨z, _⟩ | ⟨_, q2, e2⟩ | ⟨_, q2, e2, hx⟩
      · exact absurd z q
      · exact absurd z q
      · rw [if_pos q2] at hd
        rw [e2]
        refine fini F4 K1 i1 cs1 h2 eg4 (fun z => ?_) hd f2 (Or.inr ⟨rfl, q2⟩)
        rcases ho with y | y
        · omega
        · exact opn_0 y.2 x2 h64 hN h62
      · rw [if_neg q2, e2, od_bS] at hd
        exact tl _ _ _ _ hx (by omega) (rm_to_out g1.1 g1.2 (hb1 _ _ (rba_f hd f2 (by rw [h2.2.1.2.1]; omega))))
  · refine wok_b (sx_152 hx) fun r K h => ?_
    exact tl _ _ _ _ h (Nat.le_refl _) ho
end
