/-! ===== a01: a row of expressions (wip/whole2/lawa01.py) ===== -/
theorem rep_0 (v : Nat) (c : List Nat) : 0 :: (List.replicate v 0 ++ c) = List.replicate (v + 1) 0 ++ c := by
  rw [List.replicate_succ, List.cons_append]
theorem rep_lt {v e : Nat} (h : e ∈ List.replicate v 0) : e = 0 := List.eq_of_mem_replicate h
section
variable {nn : Nat} {T : Nat → Nat} {n M O : Nat} {G0 : wq_F} {c0 : List (List Nat)} {i t w s nw ns np N : Nat} {off voff ph : Nat → Nat} {cx : Nat → List Nat} {c cb : List Nat} {W : List (Nat × Nat × Nat × Nat)} {L : List (Nat × Nat)} {P Q : List (Nat × Nat × Nat)} {ls cs : List (List Nat)} {F G : wq_F}

/-- no expression begins: the class alone -/
theorem cE_no {k l d B : Nat} (hM : tk_M T n M) (hr : ry T n M i ls t w nw np W L P F) (hc : cy T n G0 c0 O i cs s ns np N Q G) (hb : bz N off voff ph cx c np F ls G cs) (hk : 1 ≤ k) (h : tb_ex (tk_ty T n (tk_pos T n i)) = 0) (hs : s ≤ B) (hns : ns ≤ 10000) (hnf : np ≤ 50) (hQ : Q.length ≤ 440) : wok (dk_R nn k 148 [l, d] G) (fun r K => r = 0 ∧ sx T n G0 c0 O (tk_wr T n i) (tk_pos T n i) N B K) := by
  obtain ⟨k, rfl⟩ : ∃ m, k = m + 1 := ⟨k - 1, by omega⟩
  have h57 : G 57 4 = tk_ty T n (tk_pos T n i) := hc.1.2.1.1
  rw [dk_Re_148]
  unfold dk_148
  rw [dkS_114, od_bS]
  dsimp only
  rw [h57]
  refine wok_t h (wok_b (bt_wr (B := B) hM hr hc hb hs hns hnf hQ).2 fun r K h => wok_r ⟨rfl, h⟩)
/-- a row where the class is stopped -/
theorem sx_r30 {k e p B v1 v3 : Nat} {r4 : wq_F → Nat → Nat → Option (Nat × wq_F)} (h : sx T n G0 c0 O e p N B G) (hk : 1 ≤ k) : wok (dk_144_30 (dk_R nn k) nn r4 G v1 v3) (fun _ K => sx T n G0 c0 O e p N B K) := by
  unfold dk_144_30
  refine wok_b (sx_148 h hk) fun r K h => ?_
  dsimp only
  have l : wok (dk_144_70 (dk_R nn k) nn K r ((v3 + 1) % 4294967296)) (fun _ K => sx T n G0 c0 O e p N B K) := by
    unfold dk_144_70
    exact wok_t h.1 (wok_r h.2)
  refine wok_l (wok_i (fun _ => wok_t h.1 l) (fun _ => wok_f (sx_ne h.2 (by decide)) (wok_t h.1 l)))
theorem sx_144 {k e p B d : Nat} (h : sx T n G0 c0 O e p N B G) (hk : 2 ≤ k) (hn : 10000 < nn) : wok (dk_R nn k 144 [d] G) (fun _ K => sx T n G0 c0 O e p N B K) := by
  obtain ⟨k, rfl⟩ : ∃ m, k = m + 1 := ⟨k - 1, by omega⟩
  rw [dk_Re_144]
  unfold dk_144
  obtain ⟨m, rfl⟩ : ∃ m, nn = m + 1 := ⟨nn - 1, by omega⟩
  show wok (dk_144_4b (dk_R (m + 1) k) (m + 1) (dk_144_4 (dk_R (m + 1) k) (m + 1) m) G d 0) _
  unfold dk_144_4b
  refine wok_f (by decide) ?_
  unfold dk_144_12
  exact wok_f (by decide) (sx_r30 h (by omega))
/-- no expression begins: a row of the class alone -/
theorem cR_no {k d B : Nat} (hM : tk_M T n M) (hr : ry T n M i ls t w nw np W L P F) (hc : cy T n G0 c0 O i cs s ns np N Q G) (hb : bz N off voff ph cx c np F ls G cs) (hk : 2 ≤ k) (hn : 10000 < nn) (h : tb_ex (tk_ty T n (tk_pos T n i)) = 0) (hs : s ≤ B) (hns : ns ≤ 10000) (hnf : np ≤ 50) (hQ : Q.length ≤ 440) : wok (dk_R nn k 144 [d] G) (fun _ K => sx T n G0 c0 O (tk_wr T n i) (tk_pos T n i) N B K) := by
  obtain ⟨k, rfl⟩ : ∃ m, k = m + 1 := ⟨k - 1, by omega⟩
  rw [dk_Re_144]
  unfold dk_144
  obtain ⟨m, rfl⟩ : ∃ m, nn = m + 1 := ⟨nn - 1, by omega⟩
  show wok (dk_144_4b (dk_R (m + 1) k) (m + 1) (dk_144_4 (dk_R (m + 1) k) (m + 1) m) G d 0) _
  unfold dk_144_4b
  refine wok_f (by decide) ?_
  unfold dk_144_12
  refine wok_f (by decide) ?_
  unfold dk_144_30
  refine wok_b (cE_no (B := B) hM hr hc hb (by omega) h hs hns hnf hQ) fun r K h => ?_
  dsimp only
  have l : wok (dk_144_70 (dk_R (m + 1) k) (m + 1) K r ((0 + 1) % 4294967296)) (fun _ K => sx T n G0 c0 O (tk_wr T n i) (tk_pos T n i) N B K) := by
    unfold dk_144_70
    exact wok_t h.1 (wok_r h.2)
  refine wok_l (wok_i (fun _ => wok_t h.1 l) (fun _ => wok_f (sx_ne h.2 (by decide)) (wok_t h.1 l)))
/-- an open value at the end: all of it is taken, on both sides -/
theorem opn_all {H K H1 : wq_F} {i' w' s' nw' ns' np' t' : Nat} {ls' cs' : List (List Nat)} {d : List Nat} {W' : List (Nat × Nat × Nat × Nat)} (h : eg T n M G0 c0 O N off voff ph cx cb F G i ls cs w s nw ns np d t W L P Q H K i' ls' cs' w' s' nw' ns' np' (0 :: d)) (ho : opn cb N F G w s nw ns np d H K ls' cs' w' s' nw' ns' np') (hr : ry T n M i' ls' t' w' nw' np' W' L P H1) (h0 : ∀ c j, ¬ c = 0 → H1 c j = H c j) (h5 : H1 0 50 = H 0 50 ∧ H1 0 53 = H 0 53) (h62 : ∀ l, l < N → G 62 l < np) (hs : s' < 9999) :
    wok (dk_158 K 4294967295) (fun _ K1 => eg T n M G0 c0 O N off voff ph cx cb F G i ls cs w s nw ns np d t' W' L P Q (wq_up H1 21 (w' - 1) 4294967295) K1 i' ls' cs' w' s' nw' ns' np' (2 :: d)) := by
  obtain ⟨h1, h2, h3, h4, ⟨h5a, h5b, h5c⟩, h6, h7⟩ := h
  obtain ⟨o1, o2, o3, o4⟩ := ho
  have hs' : K 11 4 = s' := h2.2.1.1
  have hN := h3.1.1.1
  unfold dk_158
  refine wok_t ⟨by omega, by omega⟩ (wok_l (wok_g (by omega) (wok_u (wok_r ?_))))
  rw [hs', show (s' + (4294967296 - 1)) % 4294967296 = s' - 1 by omega]
  have hb1 : bz N off voff ph cx (2 :: d) np' H ls' (wq_up K 14 (s' - 1) 4294967295) cs' := bz_h h3 (bzG_up (bzG_refl _) (by omega)) (fun l hl => by
    rw [wq_up_cell (by decide)]
    by_cases z : l = N - 1
    · rw [if_pos z, z, bz_hc h3, hg_0, hg_2]
    · rw [if_neg z]) (fun k _ _ q => cx_at_c (cx_at_dn (a := [0]) (fun e he => by rw [List.mem_singleton.mp he]; decide) q)) (fun e he => by
    rcases List.mem_cons.mp he with z | z
    · omega
    · exact bz_fr h3 e (List.mem_cons_of_mem _ z))
  refine ⟨ry_up hr (by unfold ry_n; omega), cy_wt h2 (okj_n (by decide)), bz_F hb1 (bzF_up ⟨fun c hc => funext fun j => h0 c j (by omega), h5.1, h5.2⟩ (by omega)), ?_, ⟨h5a, h5b, ⟨fun l hl => ⟨(wq_up_cell (by decide)).trans (h5c.1 l hl).1, (wq_up_cell (by decide)).trans (h5c.1 l hl).2⟩, fun l hl e6 h6' => (wq_up_cell (by omega)).trans (h5c.2 l hl e6 h6')⟩⟩, h6, h7⟩
  refine pj_t o4 (pj_n (fun c j q => ?_) (fun c j q => rfl)) (st_pre_refl _) (st_pre_refl _) (fun g hg ⟨l, l1, l2⟩ => by have := h62 l l1; omega) (h62 (N - 1) (by omega))
  by_cases z : c = 21 ∧ j = w' - 1
  · rw [z.1, z.2, wq_up_same, wq_up_same]
  · rw [wq_up_ne z, wq_up_ne z]
    exact h0 c j (by omega)
/-- the row from its v-th expression on -/
theorem row_loop {D k : Nat} (hM : tk_M T n M) (hE : E_ok nn T n M G0 c0 O D) (hk : 20 * (22 - D) + 20 ≤ k) (hD : D ≤ 21) (htD : t + 1 = D) (hn : 10000 < nn) (hc0 : c0.length ≤ 1400) (hO : O ≤ 20000) : ∀ (g v i w s nw ns np : Nat) (ls cs : List (List Nat)) (F G : wq_F), v ≤ 14 → 16 < g + v → ry T n M i ls t w nw np ((3, 0, 0, 0) :: (14, v, 0, 0) :: W) L P F → cy T n G0 c0 O i cs s ns np N Q G → bz N off voff ph cx (List.replicate v 0 ++ c) np F ls G cs → bnd i w s nw ns np t (hg (List.replicate v 0 ++ c)) ((14, v, 0, 0) :: W) L P Q N →
    wok (dk_144_30 (dk_R nn k) nn (dk_144_4 (dk_R nn k) nn g) G D v) (fun r K => (∃ i' w' s' nw' ns' np' ls' cs' H m c', (rm_to nn F H ∧ rm_fr F H) ∧ eg T n M G0 c0 O N off voff ph cx cb F G i ls cs w s nw ns np (List.replicate v 0 ++ c) t W L P Q H K i' ls' cs' w' s' nw' ns' np' c' ∧ rts i w s nw ns i' w' s' nw' ns' ∧ v < m ∧ m ≤ 15 ∧ ((r = m * 2 ∧ c' = List.replicate m 0 ++ c) ∨ (r = m * 2 + 1 ∧ c' = 2 :: (List.replicate (m - 1) 0 ++ c)))) ∨ ∃ e p, rm_out nn e p F ∧ sx T n G0 c0 O e p N (zz D + 70) K) := by
  intro g
  induction g with
  | zero => intro v i w s nw ns np ls cs F G hv hgv; omega
  | succ g ih =>
    intro v i w s nw ns np ls cs F G hv hgv hr hc hb hB
    have hB0 := hB
    obtain ⟨m1, m2, m3, m4, m5, m6, m7, m8, m9, m10, m11, m12⟩ := hB0
    have m8 : W.length + 1 ≤ 20 * t + 20 := m8
    have h62 := hb.2.2.2.2.2.1
    have hM1 := hM.1
    have hN := hb.1.1.1
    have hz : 6310 ≤ zz D + 70 ∧ zz D < 9900 := by unfold zz; omega
    unfold dk_144_30
    refine wok_b (hE k 0 0 i t w s nw ns np N off voff ph cx (List.replicate v 0 ++ c) cb ((14, v, 0, 0) :: W) L P Q ls cs F G hk (Or.inl ⟨rfl, by decide⟩) htD hr hc hb hB) fun r1 K1 h1 => ?_
    dsimp only
    refine wok_l ?_
    rw [Nat.mod_eq_of_lt (show v + 1 < 4294967296 by omega)]
    refine wok_f (fun z => absurd ((wd_slt (by decide) (by omega)).mp z) (by omega)) ?_
    have fin70 : ∀ (K : wq_F) (r' : Nat), (r' = 0 ∨ r' = 1) → wok (dk_144_70 (dk_R nn k) nn K r' (v + 1)) (fun r K' => K' = K ∧ r = (v + 1) * 2 + r') := fun K r' hr' => by
      have hm : ev_oMul (v + 1) 2 = (v + 1) * 2 := by
        unfold ev_oMul
        omega
      unfold dk_144_70
      rw [hm]
      rcases hr' with e | e
      · rw [e]
        exact wok_t rfl (wok_r ⟨rfl, rfl⟩)
      · rw [e]
        refine wok_f (by decide) (wok_l (wok_r ⟨rfl, by omega⟩))
    rcases h1 with ⟨i1, w1, s1, nw1, ns1, np1, ls1, cs1, H1, g1, eg1, rt, ho⟩ | ⟨e, p, ho, hx⟩
    · obtain ⟨rt1, rt2, rt3, rt4, rt5⟩ := rt
      have hi1 := eg1.1.1.2.2.1
      have h57 : K1 57 4 = tk_ty T n (tk_pos T n i1) := eg1.2.1.1.2.1.1
      have hp := ry_pop eg1.1
      have hpf : rm_fr H1 (wq_up H1 0 46 W.length) := rm_fr_up (rm_fr_refl _) (by decide) (by decide)
      have hp0 : ∀ d j, ¬ d = 0 → wq_up H1 0 46 W.length d j = H1 d j := fun d j q => wq_up_cell q
      have hsg : dk_36 (wq_up H1 0 46 W.length) 44 = some (if tk_k T n i1 = 5 ∧ tk_V T n (tk_pos T n i1) = 44 then 1 else 0, wq_up H1 0 46 W.length) := pm_isSign hM hp.1 (by decide)
      have h64 : wq_up H1 0 46 W.length 0 64 = H1 0 64 := wq_up_at (by decide)
      have hg1 := fun H => ry_go (nn := nn) (H := H) eg1.1 (by show W.length < 4000; omega)
      have hb1 := fun k p => ry_ba (nn := nn) (k := k) (p := p) eg1.1 (by show W.length < 4000; omega)
      have h33 : dk_32 nn (wq_up H1 0 46 W.length) (14, v, 0, 0).1 (14, v, 0, 0).2.1 (14, v, 0, 0).2.2.1 (14, v, 0, 0).2.2.2 = dk_247 (wq_up H1 0 46 W.length) v := by
        show dk_32 nn (wq_up H1 0 46 W.length) 14 v 0 0 = _
        rw [dk32_14, od_bI]
      have hr0 : r1 = 0 ∨ r1 = 1 := by
        rcases ho with z | z
        · exact Or.inl z.1
        · exact Or.inr z.1
      by_cases q : tk_k T n i1 = 5 ∧ tk_V T n (tk_pos T n i1) = 44
      · -- another one follows
        refine wok_t (h57.trans ((tk_ty_sign (c := 44) (by decide)).mpr q)) ?_
        show wok (dk_144_4b (dk_R nn k) nn (dk_144_4 (dk_R nn k) nn g) K1 D (v + 1)) _
        unfold dk_144_4b
        refine wok_t ⟨by omega, by omega⟩ ?_
        refine wok_b (bt_77 (B := 6200) hM hp eg1.2.1 (bz_F eg1.2.2.1 ⟨fun c hc => funext fun j => hp0 c j (by omega), wq_up_at (by decide), wq_up_at (by decide)⟩) (by omega) (by omega) (by omega) hc0 hO (by omega) (by omega) eg1.2.2.2.2.2.2 (by omega)) fun r2 K2 h2 => ?_
        dsimp only
        rcases h2 with ⟨iM, e2, ms, c2, b2, f2, p2⟩ | ⟨e2, hx⟩
        · have hr5 := ry_nx hp iM
          have hf5 : rm_fr H1 (wq_up (wq_up H1 0 46 W.length) 0 25 (i1 + 1)) := rm_fr_up hpf (by decide) (by decide)
          have b5 : bz N off voff ph cx (0 :: (List.replicate v 0 ++ c)) np1 (wq_up (wq_up H1 0 46 W.length) 0 25 (i1 + 1)) ls1 K2 ms := bz_fu b2 (by omega)
          have h05 : ∀ d j, ¬ d = 0 → wq_up (wq_up H1 0 46 W.length) 0 25 (i1 + 1) d j = H1 d j := fun d j q => (wq_up_cell q).trans (hp0 d j q)
          have hm : dk_247 (wq_up H1 0 46 W.length) v = (if tb_ex (tk_ty T n (tk_pos T n (i1 + 1))) = 0 then some (0, pm_f (wq_up (wq_up H1 0 46 W.length) 0 25 (i1 + 1)) (tk_wr T n (i1 + 1)) (tk_pos T n (i1 + 1))) else if v + 1 = 15 then some (0, pm_f (wq_up (wq_up H1 0 46 W.length) 0 25 (i1 + 1)) 3 (tk_pos T n (i1 + 1))) else some (1, pm_la (pm_la (wq_up (wq_up H1 0 46 W.length) 0 25 (i1 + 1)) 14 (v + 1) 0 0) 3 0 0 0)) := by
            have h46 := hr5.2.2.1.1
            unfold dk_247
            rw [hsg, od_bS]
            dsimp only
            rw [if_pos q, if_neg (by decide), e2, od_bS]
            dsimp only
            rw [if_neg (by decide), dkS_217 hM hr5.1, od_bS]
            dsimp only
            by_cases z : tb_ex (tk_ty T n (tk_pos T n (i1 + 1))) = 0
            · rw [if_pos z, if_pos z, pm_wrong hM hr5.1, od_bS]
            · rw [if_neg z, if_neg z, Nat.mod_eq_of_lt (show v + 1 < 4294967296 by omega)]
              by_cases y : v + 1 = 15
              · rw [if_pos y, if_pos y, pm_here hM hr5.1, od_bS]
                dsimp only
                rw [pm_fail hr5.1, od_bS]
              · rw [if_neg y, if_neg y, dkS_31 (by omega), od_bS]
                dsimp only
                rw [dkS_31 (by rw [pm_la_at.2.2.2.2]; omega), od_bS]
          generalize wq_up (wq_up H1 0 46 W.length) 0 25 (i1 + 1) = H5 at *
          by_cases z : tb_ex (tk_ty T n (tk_pos T n (i1 + 1))) = 0
          · rw [if_pos z] at hm
            have hout := hb1 _ _ (rba_f (h33.trans hm) hf5 (by rw [hr5.2.1.2.1]; omega))
            have no : wok (dk_144_30 (dk_R nn k) nn (dk_144_4 (dk_R nn k) nn g) K2 D (v + 1)) (fun r K => (∃ i' w' s' nw' ns' np' ls' cs' H m c', (rm_to nn F H ∧ rm_fr F H) ∧ eg T n M G0 c0 O N off voff ph cx cb F G i ls cs w s nw ns np (List.replicate v 0 ++ c) t W L P Q H K i' ls' cs' w' s' nw' ns' np' c' ∧ rts i w s nw ns i' w' s' nw' ns' ∧ v < m ∧ m ≤ 15 ∧ ((r = m * 2 ∧ c' = List.replicate m 0 ++ c) ∨ (r = m * 2 + 1 ∧ c' = 2 :: (List.replicate (m - 1) 0 ++ c)))) ∨ ∃ e p, rm_out nn e p F ∧ sx T n G0 c0 O e p N (zz D + 70) K) := by
              unfold dk_144_30
              refine wok_b (cE_no (B := 6200) hM hr5 c2 b5 (by omega) z (by omega) (by omega) eg1.2.2.2.2.2.2 (by omega)) fun r K h => ?_
              dsimp only
              have l : ∀ y, wok (dk_144_70 (dk_R nn k) nn K r y) (fun r K => (∃ i' w' s' nw' ns' np' ls' cs' H m c', (rm_to nn F H ∧ rm_fr F H) ∧ eg T n M G0 c0 O N off voff ph cx cb F G i ls cs w s nw ns np (List.replicate v 0 ++ c) t W L P Q H K i' ls' cs' w' s' nw' ns' np' c' ∧ rts i w s nw ns i' w' s' nw' ns' ∧ v < m ∧ m ≤ 15 ∧ ((r = m * 2 ∧ c' = List.replicate m 0 ++ c) ∨ (r = m * 2 + 1 ∧ c' = 2 :: (List.replicate (m - 1) 0 ++ c)))) ∨ ∃ e p, rm_out nn e p F ∧ sx T n G0 c0 O e p N (zz D + 70) K) := fun y => by
                unfold dk_144_70
                exact wok_t h.1 (wok_r (Or.inr ⟨_, _, rm_to_out g1.1 g1.2 hout, sx_le h.2 (by omega)⟩))
              exact wok_l (wok_i (fun _ => wok_t h.1 (l _)) (fun _ => wok_f (sx_ne h.2 (by decide)) (wok_t h.1 (l _))))
            unfold dk_144_12
            refine wok_i (fun y => ?_) (fun _ => no)
            rw [dkS_114, od_bS]
            dsimp only
            rw [c2.1.2.1.1]
            exact wok_t z no
          · rw [if_neg z] at hm
            by_cases y : v + 1 = 15
            · rw [if_pos y] at hm
              have hout := hb1 _ _ (rba_f (h33.trans hm) hf5 (by rw [hr5.2.1.2.1]; omega))
              unfold dk_144_12
              refine wok_t y ?_
              rw [dkS_114, od_bS]
              dsimp only
              rw [c2.1.2.1.1]
              refine wok_f z ?_
              refine wok_b (bt_f3 (B := 6200) hM hr5 c2 b5 (by omega) (by omega) eg1.2.2.2.2.2.2 (by omega)).2 fun r K h => ?_
              exact wok_m (sx_r30 h (by omega)) fun r K h => Or.inr ⟨_, _, rm_to_out g1.1 g1.2 hout, sx_le h (by omega)⟩
            · rw [if_neg y] at hm
              have hr6 : ry T n M (i1 + 1) ls1 t w1 nw1 np1 ((3, 0, 0, 0) :: (14, v + 1, 0, 0) :: W) L P (pm_la (pm_la H5 14 (v + 1) 0 0) 3 0 0 0) := ry_la (ry_la hr5)
              have g6 := hg1 _ (rgo_i (h33.trans hm) (by decide) hr6.1.1 (rm_fr_la (rm_fr_la hf5)))
              have b6 : bz N off voff ph cx (List.replicate (v + 1) 0 ++ c) np1 (pm_la (pm_la H5 14 (v + 1) 0 0) 3 0 0 0) ls1 K2 ms := by
                rw [← rep_0]
                exact bz_la (bz_la b5)
              have e6 : eg T n M G0 c0 O N off voff ph cx cb F G i ls cs w s nw ns np (List.replicate v 0 ++ c) t ((3, 0, 0, 0) :: (14, v + 1, 0, 0) :: W) L P Q (pm_la (pm_la H5 14 (v + 1) 0 0) 3 0 0 0) K2 (i1 + 1) ls1 ms w1 s1 nw1 ns1 np1 (List.replicate (v + 1) 0 ++ c) := by
                rw [← rep_0] at b6 ⊢
                exact eg_t eg1 (eg_n hr6 c2 b6 (fun d j q => by rw [pm_la_ne (by omega) (by omega), pm_la_ne (by omega) (by omega)]; exact h05 d j (by omega)) (qf_fr f2) p2 (by omega) eg1.2.2.2.2.2.2) h62
              unfold dk_144_12
              refine wok_f y ?_
              have hh6 : hg (List.replicate (v + 1) 0 ++ c) = hg (List.replicate v 0 ++ c) + 1 := by rw [← rep_0, hg_0]
              refine wok_m (ih (v + 1) (i1 + 1) w1 s1 nw1 ns1 np1 ls1 ms _ K2 (by omega) (by omega) hr6 c2 b6 ⟨by omega, by omega, by omega, by omega, eg1.2.2.2.2.2.2, m6, by omega, m8, m9, m10, m11, m12⟩) fun r K h => ?_
              rcases h with ⟨i', w', s', nw', ns', np', ls', cs', H, m, c', g7, e7, ⟨u1, u2, u3, u4, u5⟩, v1, v2, v3⟩ | ⟨e, p, ho2, hx⟩
              · exact Or.inl ⟨i', w', s', nw', ns', np', ls', cs', H, m, c', ⟨rm_trans g1.1 (rm_trans g6.1 g7.1), rm_fr_trans g1.2 (rm_fr_trans g6.2 g7.2)⟩, eg_t e6 e7 h62, ⟨by omega, by omega, by omega, by omega, by omega⟩, by omega, v2, v3⟩
              · exact Or.inr ⟨e, p, rm_to_out g1.1 g1.2 (rm_to_out g6.1 g6.2 ho2), hx⟩
        · have hout := hb1 _ _ (rba_f (k := 3) (p := tk_pos T n i1) (h33.trans (by
            unfold dk_247
            rw [hsg, od_bS]
            dsimp only
            rw [if_pos q, if_neg (by decide), e2, od_bS]
            rfl)) hpf (by rw [hp.2.1.2.1]; omega))
          have l := sx_r30 (nn := nn) (k := k) (v1 := D) (v3 := v + 1) (r4 := dk_144_4 (dk_R nn k) nn g) hx (by omega)
          have l2 := wok_m l (C := (fun r K => (∃ i' w' s' nw' ns' np' ls' cs' H m c', (rm_to nn F H ∧ rm_fr F H) ∧ eg T n M G0 c0 O N off voff ph cx cb F G i ls cs w s nw ns np (List.replicate v 0 ++ c) t W L P Q H K i' ls' cs' w' s' nw' ns' np' c' ∧ rts i w s nw ns i' w' s' nw' ns' ∧ v < m ∧ m ≤ 15 ∧ ((r = m * 2 ∧ c' = List.replicate m 0 ++ c) ∨ (r = m * 2 + 1 ∧ c' = 2 :: (List.replicate (m - 1) 0 ++ c)))) ∨ ∃ e p, rm_out nn e p F ∧ sx T n G0 c0 O e p N (zz D + 70) K)) fun r K h => Or.inr ⟨_, _, rm_to_out g1.1 g1.2 hout, sx_le h (by omega)⟩
          unfold dk_144_12
          refine wok_i (fun _ => ?_) (fun _ => l2)
          refine wok_b (sx_114 hx) fun r K h => ?_
          dsimp only
          refine wok_t h.1 ?_
          exact wok_m (sx_r30 h.2 (by omega)) fun r K h => Or.inr ⟨_, _, rm_to_out g1.1 g1.2 hout, sx_le h (by omega)⟩
      · -- the last one
        refine wok_f (fun z => q ((tk_ty_sign (c := 44) (by decide)).mp (h57.symm.trans z))) ?_
        rcases ho with ⟨a1, a2⟩ | ⟨a1, a2⟩
        · subst a1
          refine wok_t rfl (wok_m (fin70 K1 0 (Or.inl rfl)) fun r K hK => Or.inl ⟨i1, w1, s1, nw1, ns1, np1, ls1, cs1, wq_up H1 0 46 W.length, v + 1, 0 :: (List.replicate v 0 ++ c), ?_, ?_, ⟨by omega, by omega, by omega, by omega, by omega⟩, by omega, by omega, Or.inl ⟨hK.2, rep_0 v c⟩⟩)
          · have g2 := hg1 _ (rgo_i (r := 1) (h33.trans (by
              unfold dk_247
              rw [hsg, od_bS]
              dsimp only
              rw [if_neg q, if_pos rfl, if_pos (by omega)])) (by decide) hp.1.1 hpf)
            exact ⟨rm_trans g1.1 g2.1, rm_fr_trans g1.2 g2.2⟩
          · rw [hK.1]
            exact eg_0 eg1 hp hp0 ⟨wq_up_at (by decide), wq_up_at (by decide)⟩ h62
        · subst a1
          refine wok_f (by decide) ?_
          have a2' := a2
          obtain ⟨o1, o2, o3, o4⟩ := a2'
          refine wok_b (opn_all eg1 a2 hp hp0 ⟨wq_up_at (by decide), wq_up_at (by decide)⟩ h62 (by omega)) fun r2 K2 e2 => ?_
          dsimp only
          refine wok_m (fin70 K2 1 (Or.inr rfl)) fun r K hK => Or.inl ⟨i1, w1, s1, nw1, ns1, np1, ls1, cs1, wq_up (wq_up H1 0 46 W.length) 21 (w1 - 1) 4294967295, v + 1, 2 :: (List.replicate v 0 ++ c), ?_, ?_, ⟨by omega, by omega, by omega, by omega, by omega⟩, by omega, by omega, Or.inr ⟨hK.2, rfl⟩⟩
          · have g2 := hg1 (wq_up (wq_up H1 0 46 W.length) 21 (w1 - 1) 4294967295) (rgo_i (r := 1) (h33.trans (by
              unfold dk_247
              rw [hsg, od_bS]
              dsimp only
              rw [if_neg q, if_pos rfl, if_neg (by omega), od_g1 (by omega), od_upS, h64, show H1 0 64 = w1 - 1 by omega])) (by decide) e2.1.1.1 (rm_fr_up hpf (by decide) (fun z => absurd z (by decide))))
            exact ⟨rm_trans g1.1 g2.1, rm_fr_trans g1.2 g2.2⟩
          · rw [hK.1]
            exact e2
    · have l : ∀ y, wok (dk_144_70 (dk_R nn k) nn K1 r1 y) (fun _ K => sx T n G0 c0 O e p N (zz D + 70) K) := fun y => by
        unfold dk_144_70
        exact wok_i (fun _ => wok_r hx) (fun _ => wok_l (wok_r hx))
      refine wok_f (sx_ne hx (by decide)) (wok_i (fun _ => wok_m (l _) fun r K h => Or.inr ⟨e, p, ho, h⟩) (fun _ => ?_))
      refine wok_b (sx_158 hx (okj_n (by decide)) (by omega)) fun r K h => ?_
      dsimp only
      unfold dk_144_70
      exact wok_i (fun _ => wok_r (Or.inr ⟨e, p, ho, h⟩)) (fun _ => wok_l (wok_r (Or.inr ⟨e, p, ho, h⟩)))
end
