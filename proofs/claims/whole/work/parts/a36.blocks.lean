/-! ===== a36: a block, given its statements (wip/whole2/lawa36.py) ===== -/
theorem dk32_0b {nn x y z : Nat} {F : wq_F} : dk_32 nn F 0 x y z = dk_33 nn F := by
  rw [dk32_0, od_bI]
section
variable {nn : Nat} {T : Nat → Nat} {n M O : Nat} {G0 : wq_F} {c0 : List (List Nat)} {i t w s nw ns np N : Nat} {off voff ph : Nat → Nat} {cx : Nat → List Nat} {c cb : List Nat} {W : List (Nat × Nat × Nat × Nat)} {L : List (Nat × Nat)} {P Q : List (Nat × Nat × Nat)} {ls cs : List (List Nat)} {F G : wq_F}

variable {Jr0 Jc0 : List Nat}
theorem rF_no (hM : tk_M T n M) (hr : ry T n M i ls t w nw np W L P F) (h : t = 20) : dk_216 F = some (0, pm_f F 3 (tk_pos T n i)) := by
  unfold dk_216
  rw [if_pos (hr.2.1.1.trans h), pm_here hM hr.1, od_bS]
  dsimp only
  rw [od_bI, pm_fail hr.1]
theorem sx_80_2 {R : dk_Rt} {g d x e p B : Nat} (h : sx T n G0 c0 O e p N B G) : wok (dk_80_2 R nn (g + 1) G d x) (fun _ K => sx T n G0 c0 O e p N B K) := by
  show wok (dk_80_2b R nn (dk_80_2 R nn g) G d x) _
  unfold dk_80_2b
  refine wok_i (fun _ => wok_f (sx_ne h (by decide)) (wok_r h)) (fun _ => wok_b (sx_79 h) fun r K h => ?_)
  dsimp only
  exact wok_t h.1 (wok_f (sx_ne h.2 (by decide)) (wok_r h.2))
theorem sxy_80_2 {R : dk_Rt} {g d x e p B : Nat} (h : sxy T n G0 c0 O e p N B G) : wok (dk_80_2 R nn (g + 1) G d x) (fun _ K => sxy T n G0 c0 O e p N B K) := by
  rcases h with h | ⟨he, h⟩
  · exact wok_m (sx_80_2 h) fun r K h => Or.inl h
  · show wok (dk_80_2b R nn (dk_80_2 R nn g) G d x) _
    unfold dk_80_2b
    have z : tb_st (G 57 4) = 0 := by
      rcases h.1 with q | q
      · rw [q]
        rfl
      · rw [q]
        rfl
    refine wok_i (fun _ => wok_f (sy_ne h (by decide)) (wok_r (Or.inr ⟨he, h⟩))) (fun _ => ?_)
    rw [dkS_79, od_bS]
    dsimp only
    exact wok_t z (wok_f (sy_ne h (by decide)) (wok_r (Or.inr ⟨he, h⟩)))
theorem lo_k {voff' ph' : Nat → Nat} {c' : List Nat} {H K K' : wq_F} (h : lo N voff c voff' ph' c' K) (hk : ∀ k, k < voff' N → K' 61 (ph' k) = K 61 (ph' k)) : lo N voff c voff' ph' c' K' := by
  obtain ⟨a, a1, a2, a3, a4, a5⟩ := h
  exact ⟨a, a1, a2, a3, fun k x y => (hk k y).trans (a4 k x y), a5⟩
/-- a block: the rest of it, from a state that it came to -/
theorem block_loop {D k : Nat} (hM : tk_M T n M) (hn : 10000 < nn) (hc0 : c0.length ≤ 1400) (hO : O ≤ 20000) (hD : D ≤ 21) (hSt : D ≤ 20 → St_ok nn T n M G0 c0 O D) (hE : E_ok nn T n M G0 c0 O D) (hk : 20 * (22 - D) + 23 ≤ k) (htD : t + 1 = D) (hb : bz N off voff ph cx c np F ls G cs) (hB : bnd i (w + 2) (s + 1) nw ns np t (hg c) W L P Q N) (hW : W.length ≤ 20 * t + 10) (hib : ib N L cb c) (hfs : fs c) :
    ∀ (m i1 x g w1 s1 nw1 ns1 np1 : Nat) (ls1 cs1 : List (List Nat)) (H K : wq_F) (c1 : List Nat) (off1 voff1 ph1 : Nat → Nat) (L1 : List (Nat × Nat)) (Jr Jc : List Nat), M < i1 + m → x ≤ i1 → m < g → (rm_to nn F H ∧ rm_fr F H) → ge T n M G0 c0 O N cx cb F G i ls cs w s nw ns np c off voff ph L Jr0 Jc0 t ((0, 0, 0, 0) :: W) P Q H K i1 ls1 cs1 w1 s1 nw1 ns1 np1 c1 off1 voff1 ph1 L1 Jr Jc → lo N voff c voff1 ph1 c1 K → rt0 i w s nw ns i1 w1 s1 nw1 ns1 → hg c1 + 2 * i ≤ hg c + 2 * i1 → (w < w1 → H 20 w = 0) → wok (dk_80_2 (dk_R nn k) nn g K D x) (fun _ K => (∃ i' w' s' nw' ns' np' ls' cs' H c' off' voff' ph' L' Jr Jc, (rm_to nn F H ∧ rm_fr F H) ∧ ge T n M G0 c0 O N cx cb F G i ls cs w s nw ns np c off voff ph L Jr0 Jc0 t W P Q H K i' ls' cs' w' s' nw' ns' np' c' off' voff' ph' L' Jr Jc ∧ lo N voff c voff' ph' c' K ∧ rt0 i w s nw ns i' w' s' nw' ns' ∧ hg c' + 2 * i ≤ hg c + 2 * i' ∧ (w < w' → H 20 w = 0)) ∨ ∃ e p, rm_out nn e p F ∧ sxy T n G0 c0 O e p N (zz D + 100) K) := by
  have hz : 6200 ≤ zz D ∧ zz D < 9800 := by unfold zz; omega
  obtain ⟨m1, m2, m3, m4, m5, m6, m7, m8, m9, m10, m11, m12⟩ := hB
  have hM1 := hM.1
  have h62 := hb.2.2.2.2.2.1
  intro m
  induction m with
  | zero => intro i1 x g w1 s1 nw1 ns1 np1 ls1 cs1 H K c1 off1 voff1 ph1 L1 Jr Jc h _ _ _ g1; have := g1.1.1.2.2.1; omega
  | succ m ih =>
    intro i1 x g w1 s1 nw1 ns1 np1 ls1 cs1 H K c1 off1 voff1 ph1 L1 Jr Jc hm hx hg2 g0 g1 l1 rt1 hh1 hs1
    obtain ⟨g, rfl⟩ : ∃ a, g = a + 2 := ⟨g - 2, by omega⟩
    have rt := rt1
    obtain ⟨u1, u2, u3, u4, u5⟩ := rt
    have hi1 := g1.1.1.2.2.1
    have n5 : np1 ≤ 50 := g1.2.2.2.2.2.1.2
    have b1 := g1.2.2.1
    have c1' := g1.2.1
    have hN := b1.1.1
    have k57 : K 57 4 = tk_ty T n (tk_pos T n i1) := c1'.1.2.1.1
    have hLl := lt2_len g1.2.2.2.2.2.2.2.2
    have hL1 : ∀ e ∈ L1, e.2 < N := g1.2.2.2.2.2.2.2.1.1
    have h621 := b1.2.2.2.2.2.1
    have hgo := fun H' => ry_go (nn := nn) (H := H') g1.1 (by show W.length < 4000; omega)
    have hba := fun k p => ry_ba (nn := nn) (k := k) (p := p) g1.1 (by show W.length < 4000; omega)
    have e0 := e_pop (cb := cb) g1.1 c1' b1 n5
    have f0 : rm_fr H (wq_up H 0 46 W.length) := rm_fr_up (rm_fr_refl _) (by decide) (by decide)
    have h33 : dk_32 nn (wq_up H 0 46 W.length) (0, 0, 0, 0).1 (0, 0, 0, 0).2.1 (0, 0, 0, 0).2.2.1 (0, 0, 0, 0).2.2.2 = dk_33 nn (wq_up H 0 46 W.length) := by
      show dk_32 nn (wq_up H 0 46 W.length) 0 0 0 0 = _
      rw [dk32_0b]
    generalize dk_32 nn (wq_up H 0 46 W.length) (0, 0, 0, 0).1 (0, 0, 0, 0).2.1 (0, 0, 0, 0).2.2.1 (0, 0, 0, 0).2.2.2 = mm at *
    generalize wq_up H 0 46 W.length = H0 at *
    show wok (dk_80_2b (dk_R nn k) nn (dk_80_2 (dk_R nn k) nn (g + 1)) K D x) _
    unfold dk_80_2b
    refine wok_f (fun z => by have := (wd_slt (by decide) (by omega)).mp z; omega) ?_
    rw [dkS_79, od_bS, k57]
    dsimp only
    by_cases q : tk_k T n i1 = 4 ∧ tk_V T n (tk_pos T n i1) = 17
    · -- return
      have t26 : tk_ty T n (tk_pos T n i1) = 26 := (tk_ty_word (w := 17) (by decide)).mpr q
      rw [t26]
      refine wok_t (by decide) (wok_t (by rw [k57, t26]) ?_)
      refine wok_b (ret_ok (cb := cb) hM hn hc0 hO hE (by omega) hD htD e0.1 e0.2.1 e0.2.2.1 ⟨by omega, by omega, by omega, by omega, n5, m6, by omega, by omega, ⟨by omega, hL1⟩, m10, m11, m12⟩ (by omega) q) fun r K2 h2 => wok_r ?_
      rcases h2 with ⟨i2, w2, s2, nw2, ns2, np2, ls2, cs2, H2, g2, e2, ⟨v1, v2, v3, v4, v5⟩, hs2⟩ | ⟨e, p, ho, hx⟩
      · have g3 := hgo H2 (rgo_fr (B := H0) (by rw [h33]; exact g2) f0)
        refine Or.inl ⟨i2, w2, s2, nw2, ns2, np2, ls2, cs2, H2, c1, off1, voff1, ph1, L1, Jr, Jc, ⟨rm_trans g0.1 g3.1, rm_fr_trans g0.2 g3.2⟩, ge_x (ge_x g1 e0 h62) e2 h62, ?_, ⟨by omega, by omega, by omega, by omega, by omega⟩, by omega, fun z => ?_⟩
        rotate_left
        · by_cases zz : w < w1
          · rw [e2.2.2.2.1.2.1.1 20 w (by decide) (by decide) zz, e0.2.2.2.1.2.1.1 20 w (by decide) (by decide) zz]
            exact hs1 zz
          · have y := g1.2.2.2.1.1.1
            rw [show w = w1 by omega]
            exact hs2
        exact lo_k (H := H) l1 (fun k hk => e2.2.2.2.2.1.2.2.2 (ph1 k) (b1.1.2.2.1 k hk).1 61 (Or.inr rfl))
      · have ho2 := hba e p (rba_fr (B := H0) (by rw [h33]; exact ho) f0)
        exact Or.inr ⟨e, p, rm_to_out g0.1 g0.2 ho2, Or.inl (sx_le hx (by omega))⟩
    · have nr : ¬ tk_ty T n (tk_pos T n i1) = 26 := fun z => q ((tk_ty_word (w := 17) (by decide)).mp z)
      have hd : mm = if tb_st (tk_ty T n (tk_pos T n i1)) = 0 then some (1, H0) else (dk_31 H0 0 0 0 0).bind fun y11 => (dk_216 y11.2).bind fun y15 => if y15.1 = 0 then some (0, y15.2) else (dk_31 y15.2 1 0 0 0).bind fun y20 => dk_226 nn y20.2 := by
        rw [h33]
        unfold dk_33
        rw [pm_isWord hM e0.1.1 (by decide), od_bS]
        dsimp only
        rw [if_ck, if_neg q, dkS_35 hM e0.1.1, od_bS]
        dsimp only
        simp only [od_bI]
      by_cases q2 : tb_st (tk_ty T n (tk_pos T n i1)) = 0
      · rw [if_pos q2] at hd
        refine wok_t q2 (wok_f (by rw [k57]; exact nr) (wok_r ?_))
        have g3 := hgo _ (rgo_i hd (by decide) e0.1.1.1 f0)
        exact Or.inl ⟨i1, w1, s1, nw1, ns1, np1, ls1, cs1, H0, c1, off1, voff1, ph1, L1, Jr, Jc, ⟨rm_trans g0.1 g3.1, rm_fr_trans g0.2 g3.2⟩, ge_x g1 e0 h62, l1, rt1, hh1, fun z => (e0.2.2.2.1.2.1.1 20 w (by decide) (by decide) z).trans (hs1 z)⟩
      · rw [if_neg q2] at hd
        refine wok_f q2 ?_
        rw [dkS_31 (by rw [e0.1.2.2.1.1]; omega), od_bS] at hd
        dsimp only at hd
        have e1 := e_la (cb := cb) (x1 := 0) (x2 := 0) (x3 := 0) (x4 := 0) e0.1 e0.2.1 e0.2.2.1 n5
        have f1 : rm_fr H (pm_la H0 0 0 0 0) := rm_fr_la f0
        have E1 := eg_t e0 e1 h621
        generalize pm_la H0 0 0 0 0 = H1 at *
        have hw1 : H1 0 41 = w1 := E1.1.2.1.2.1
        by_cases ht : t = 20
        · -- too deep
          rw [rF_no hM E1.1 ht, od_bS] at hd
          dsimp only at hd
          rw [if_pos rfl] at hd
          have ho := hba _ _ (rba_f hd f1 (by omega))
          obtain ⟨k, rfl⟩ : ∃ a, k = a + 1 := ⟨k - 1, by omega⟩
          refine wok_b (A := fun _ K => sx T n G0 c0 O 3 (tk_pos T n i1) N (zz D + 100) K) ?_ fun r K2 hx2 => ?_
          · rw [dk_Re_116]
            unfold dk_116
            refine wok_t ((wd_slt (by decide) (by omega)).mpr (by omega)) ?_
            exact wok_b (bt_f3 (B := zz D + 100) hM E1.1 c1' E1.2.2.1 (by omega) (by omega) n5 (by omega)).2 fun r K h => wok_r h
          · dsimp only
            refine wok_l ?_
            exact wok_m (sx_80_2 hx2) fun r K h => Or.inr ⟨_, _, rm_to_out g0.1 g0.2 ho, Or.inl h⟩
        · obtain ⟨en, ren⟩ := rF_enter (show t < 20 by omega) E1.1
          rw [en, od_bS] at hd
          dsimp only at hd
          have e2 := e_w (cb := cb) ren E1.2.1 E1.2.2.1 n5 (fun d j q => wq_up_cell (by omega)) ⟨wq_up_at (by decide), wq_up_at (by decide)⟩
          have f2 : rm_fr H (wq_up H1 0 47 (t + 1)) := rm_fr_up f1 (by decide) (by decide)
          have E2 := eg_t E1 e2 h621
          generalize wq_up H1 0 47 (t + 1) = H2 at *
          rw [if_neg (by decide), dkS_31 (by rw [E2.1.2.2.1.1]; show W.length + 1 < 4000; omega), od_bS] at hd
          dsimp only at hd
          have e3 := e_la (cb := cb) (x1 := 1) (x2 := 0) (x3 := 0) (x4 := 0) E2.1 E2.2.1 E2.2.2.1 n5
          have f3 : rm_fr H (pm_la H2 1 0 0 0) := rm_fr_la f2
          have E3 := eg_t E2 e3 h621
          generalize pm_la H2 1 0 0 0 = H3 at *
          have G3 := ge_x g1 E3 h62
          have hib3 := ib_t hib l1 g1.2.2.2.2.2.2.2.2
          have hfs3 : fs c1 := by
            obtain ⟨_, _, _, _, _, z⟩ := l1
            exact z hfs
          refine wok_b (hSt (by omega) k i1 (t + 1) w1 s1 nw1 ns1 np1 N off1 voff1 ph1 cx c1 cb ((1, 0, 0, 0) :: (0, 0, 0, 0) :: W) L1 P Q ls1 cs1 H3 K (Jr ++ Jr0) (Jc ++ Jc0) (by omega) htD q2 E3.1 E3.2.1 E3.2.2.1 ⟨by omega, by omega, by omega, by omega, n5, by omega, by omega, by show W.length + 2 ≤ _; omega, ⟨by omega, hL1⟩, by omega, by omega, by omega⟩ ⟨by show W.length + 2 ≤ _; omega, by omega, by omega, by omega, by omega⟩ G3.2.2.2.2.2.2.2.1 hib3 hfs3) fun r K4 h4 => ?_
          dsimp only
          refine wok_l ?_
          rcases h4 with ⟨i4, w4, s4, nw4, ns4, np4, ls4, cs4, H4, c4, off4, voff4, ph4, L4, Jr4, Jc4, g4, ge4, lo4, ⟨v1, v2, v3, v4, v5⟩, hh4, hs4⟩ | ⟨e, p, ho, hx4⟩
          · have i4M := ge4.1.1.2.2.1
            have g5 := hgo H4 (rgo_fr (B := H3) (by rw [hd]; exact g4) f3)
            have G4 := ge_t G3 ge4 h62
            -- the nest is left
            have hgo4 := fun H' => ry_go (nn := nn) (H := H') ge4.1 (by show W.length + 1 < 4000; omega)
            have e5 := e_pop (cb := cb) ge4.1 ge4.2.1 ge4.2.2.1 ge4.2.2.2.2.2.1.2
            have f5 : rm_fr H4 (wq_up H4 0 46 ((0, 0, 0, 0) :: W).length) := rm_fr_up (rm_fr_refl _) (by decide) (by decide)
            have h34 : dk_32 nn (wq_up H4 0 46 ((0, 0, 0, 0) :: W).length) (1, 0, 0, 0).1 (1, 0, 0, 0).2.1 (1, 0, 0, 0).2.2.1 (1, 0, 0, 0).2.2.2 = some (1, wq_up (wq_up H4 0 46 ((0, 0, 0, 0) :: W).length) 0 47 t) := by
              show dk_32 nn (wq_up H4 0 46 ((0, 0, 0, 0) :: W).length) 1 0 0 0 = _
              rw [dk32_1, e5.1.2.1.1, show (t + 1 + (4294967296 - 1)) % 4294967296 = t by omega, od_letS, od_upS]
            have r6 : ry T n M i4 ls4 t w4 nw4 np4 ((0, 0, 0, 0) :: W) L4 P (wq_up (wq_up H4 0 46 ((0, 0, 0, 0) :: W).length) 0 47 t) := by
              have z := ry_0 (j := 47) (v := t) e5.1 (by decide)
              rw [if_pos rfl, if_neg (by decide), if_neg (by decide)] at z
              exact z
            have e6 := e_w (cb := cb) r6 e5.2.1 e5.2.2.1 ge4.2.2.2.2.2.1.2 (fun d j q => wq_up_cell (by omega)) ⟨wq_up_at (by decide), wq_up_at (by decide)⟩
            have f6 : rm_fr H4 (wq_up (wq_up H4 0 46 ((0, 0, 0, 0) :: W).length) 0 47 t) := rm_fr_up f5 (by decide) (by decide)
            have E6 := eg_t e5 e6 ge4.2.2.1.2.2.2.2.2.1
            generalize dk_32 nn (wq_up H4 0 46 ((0, 0, 0, 0) :: W).length) (1, 0, 0, 0).1 (1, 0, 0, 0).2.1 (1, 0, 0, 0).2.2.1 (1, 0, 0, 0).2.2.2 = m6' at *
            generalize wq_up (wq_up H4 0 46 ((0, 0, 0, 0) :: W).length) 0 47 t = H6 at *
            have g6 := hgo4 _ (rgo_i h34 (by decide) r6.1.1 f6)
            have G6 := ge_x G4 E6 h62
            have L6 := lo_t l1 lo4 ge4.2.2.2.2.2.2.1 (fun k hk => ge4.2.2.2.2.1.2.2.2.2 (ph1 k) (b1.1.2.2.1 k hk).1 61 (Or.inr rfl))
            rw [Nat.mod_eq_of_lt (show x + 1 < 4294967296 by omega)]
            exact ih i4 (x + 1) (g + 1) w4 s4 nw4 ns4 np4 ls4 cs4 H6 K4 c4 off4 voff4 ph4 L4 (Jr4 ++ Jr) (Jc4 ++ Jc) (by omega) (by omega) (by omega) ⟨rm_trans g0.1 (rm_trans g5.1 g6.1), rm_fr_trans g0.2 (rm_fr_trans g5.2 g6.2)⟩ G6 L6 ⟨by omega, by omega, by omega, by omega, by omega⟩ (by omega) (fun z => by
              rw [E6.2.2.2.1.2.1.1 20 w (by decide) (by decide) z]
              by_cases zz : w < w1
              · rw [ge4.2.2.2.1.2.1.1 20 w (by decide) (by decide) zz, E3.2.2.2.1.2.1.1 20 w (by decide) (by decide) zz]
                exact hs1 zz
              · have y := g1.2.2.2.1.1.1
                rw [show w = w1 by omega] at z ⊢
                exact hs4 z)
          · have ho2 := hba e p (rba_fr (B := H3) (by rw [hd]; exact ho) f3)
            exact wok_m (sxy_80_2 hx4) fun r K h => Or.inr ⟨e, p, rm_to_out g0.1 g0.2 ho2, h⟩
theorem block_ok {D : Nat} (hM : tk_M T n M) (hn : 10000 < nn) (hc0 : c0.length ≤ 1400) (hO : O ≤ 20000) (hD : D ≤ 21) (hSt : D ≤ 20 → St_ok nn T n M G0 c0 O D) (hE : E_ok nn T n M G0 c0 O D) : Bk_ok nn T n M G0 c0 O D := by
  intro k i t w s nw ns np N off voff ph cx c cb W L P Q ls cs F G Jr0 Jc0 hk htD hr hc hb hB hW hbo hib hfs
  have hM1 := hM.1
  have hiM := hr.1.2.2.1
  obtain ⟨k, rfl⟩ : ∃ a, k = a + 1 := ⟨k - 1, by omega⟩
  rw [dk_Re_80]
  unfold dk_80
  have m5 := hB.2.2.2.2.1
  refine block_loop hM hn hc0 hO hD hSt hE (by omega) htD hb hB hW hib hfs 2000 i 0 nn w s nw ns np ls cs F G c off voff ph L [] [] (by omega) (by omega) (by omega) ⟨rm_refl _, rm_fr_refl _⟩ ?_ (lo_refl rfl) ⟨by omega, by omega, by omega, by omega, by omega⟩ (by omega) (fun z => absurd z (Nat.lt_irrefl _))
  exact ge_eg (eg_n hr hc hb (fun _ _ _ => rfl) (qf_refl _) (st_pre_refl _) (Nat.le_refl _) m5) hbo
end
