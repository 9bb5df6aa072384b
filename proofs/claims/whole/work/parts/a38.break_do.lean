/-! ===== a38: break; do (wip/whole2/lawa38.py) ===== -/
theorem dk32_21b {nn x y z : Nat} {F : wq_F} : dk_32 nn F 21 x y z = dk_256 F x := by
  rw [(dk32_21 (nn := nn) (F := F) (x := x) (y := y) (z := z)).1, od_bI, (dk32_21 (nn := nn) (F := F) (x := x) (y := y) (z := z)).2, od_bI]
theorem dk32_22b {nn x y z : Nat} {F : wq_F} : dk_32 nn F 22 x y z = dk_257 nn F x y := by
  rw [(dk32_22 (nn := nn) (F := F) (x := x) (y := y) (z := z)).1, od_bI, (dk32_22 (nn := nn) (F := F) (x := x) (y := y) (z := z)).2, od_bI]
theorem dk32_23b {nn x y z : Nat} {F : wq_F} : dk_32 nn F 23 x y z = dk_258 F x := by
  rw [(dk32_23 (nn := nn) (F := F) (x := x) (y := y) (z := z)).1, od_bI, (dk32_23 (nn := nn) (F := F) (x := x) (y := y) (z := z)).2, od_bI]
theorem dk32_24b {nn x y z : Nat} {F : wq_F} : dk_32 nn F 24 x y z = dk_259 nn F x y := by
  rw [(dk32_24 (nn := nn) (F := F) (x := x) (y := y) (z := z)).1, od_bI, (dk32_24 (nn := nn) (F := F) (x := x) (y := y) (z := z)).2, od_bI]
theorem dk32_25b {nn x y z : Nat} {F : wq_F} : dk_32 nn F 25 x y z = dk_260 nn F x := by
  rw [(dk32_25 (nn := nn) (F := F) (x := x) (y := y) (z := z)).1, od_bI, (dk32_25 (nn := nn) (F := F) (x := x) (y := y) (z := z)).2, od_bI]
theorem dk32_26b {nn x y z : Nat} {F : wq_F} : dk_32 nn F 26 x y z = dk_261 F x := by
  rw [(dk32_26 (nn := nn) (F := F) (x := x) (y := y) (z := z)).1, od_bI, (dk32_26 (nn := nn) (F := F) (x := x) (y := y) (z := z)).2, od_bI]
theorem dk32_27b {nn x y z : Nat} {F : wq_F} : dk_32 nn F 27 x y z = dk_262 nn F x y := by
  rw [(dk32_27 (nn := nn) (F := F) (x := x) (y := y) (z := z)).1, od_bI, (dk32_27 (nn := nn) (F := F) (x := x) (y := y) (z := z)).2, od_bI]
theorem dk32_28b {nn x y z : Nat} {F : wq_F} : dk_32 nn F 28 x y z = dk_263 F x y z := by
  rw [(dk32_28 (nn := nn) (F := F) (x := x) (y := y) (z := z)).1, od_bI, (dk32_28 (nn := nn) (F := F) (x := x) (y := y) (z := z)).2, od_bI]
theorem dk32_29b {nn x y z : Nat} {F : wq_F} : dk_32 nn F 29 x y z = dk_264 nn F x y z := by
  rw [(dk32_29 (nn := nn) (F := F) (x := x) (y := y) (z := z)).1, od_bI, (dk32_29 (nn := nn) (F := F) (x := x) (y := y) (z := z)).2, od_bI]
theorem dk32_30b {nn x y z : Nat} {F : wq_F} : dk_32 nn F 30 x y z = dk_214 F 6 := by
  rw [(dk32_30 (nn := nn) (F := F) (x := x) (y := y) (z := z)).1, od_bI, (dk32_30 (nn := nn) (F := F) (x := x) (y := y) (z := z)).2, od_bI]
theorem dk32_31b {nn x y z : Nat} {F : wq_F} : dk_32 nn F 31 x y z = dk_265 F x y z := by
  rw [(dk32_31 (nn := nn) (F := F) (x := x) (y := y) (z := z)).1, od_bI, (dk32_31 (nn := nn) (F := F) (x := x) (y := y) (z := z)).2, od_bI]
theorem dk32_32b {nn x y z : Nat} {F : wq_F} : dk_32 nn F 32 x y z = dk_266 F x y z := by
  rw [(dk32_32 (nn := nn) (F := F) (x := x) (y := y) (z := z)).1, od_bI, (dk32_32 (nn := nn) (F := F) (x := x) (y := y) (z := z)).2, od_bI]
theorem dk32_33b {nn x y z : Nat} {F : wq_F} : dk_32 nn F 33 x y z = dk_267 F x y z := by
  rw [(dk32_33 (nn := nn) (F := F) (x := x) (y := y) (z := z)).1, od_bI, (dk32_33 (nn := nn) (F := F) (x := x) (y := y) (z := z)).2, od_bI]
theorem dk32_34b {nn x y z : Nat} {F : wq_F} : dk_32 nn F 34 x y z = dk_268 nn F x y z := by
  rw [(dk32_34 (nn := nn) (F := F) (x := x) (y := y) (z := z)).1, od_bI, (dk32_34 (nn := nn) (F := F) (x := x) (y := y) (z := z)).2, od_bI]
theorem dk32_35b {nn x y z : Nat} {F : wq_F} : dk_32 nn F 35 x y z = dk_269 nn F x y z := by
  rw [(dk32_35 (nn := nn) (F := F) (x := x) (y := y) (z := z)).1, od_bI, (dk32_35 (nn := nn) (F := F) (x := x) (y := y) (z := z)).2, od_bI]
theorem dk32_36b {nn x y z : Nat} {F : wq_F} : dk_32 nn F 36 x y z = dk_270 nn F x y z := by
  rw [(dk32_36 (nn := nn) (F := F) (x := x) (y := y) (z := z)).1, od_bI, (dk32_36 (nn := nn) (F := F) (x := x) (y := y) (z := z)).2, od_bI]
theorem dk32_39b {nn x y z : Nat} {F : wq_F} : dk_32 nn F 39 x y z = dk_231 nn F x y (ev_oDiv z 100) (ev_oRem z 100) := by
  rw [(dk32_39 (nn := nn) (F := F) (x := x) (y := y) (z := z)).1, od_bI, (dk32_39 (nn := nn) (F := F) (x := x) (y := y) (z := z)).2, od_bI]
theorem dk32_41b {nn x y z : Nat} {F : wq_F} : dk_32 nn F 41 x y z = dk_272 F x y z := by
  rw [(dk32_41 (nn := nn) (F := F) (x := x) (y := y) (z := z)).1, od_bI, (dk32_41 (nn := nn) (F := F) (x := x) (y := y) (z := z)).2, od_bI]
section
variable {nn : Nat} {T : Nat → Nat} {n M O : Nat} {G0 : wq_F} {c0 : List (List Nat)} {i t w s nw ns np N : Nat} {off voff ph : Nat → Nat} {cx : Nat → List Nat} {c cb : List Nat} {W : List (Nat × Nat × Nat × Nat)} {L : List (Nat × Nat)} {P Q : List (Nat × Nat × Nat)} {ls cs : List (List Nat)} {F G : wq_F}

variable {Jr0 Jc0 : List Nat}
theorem ry_ch {v l v' : Nat} {L0 : List (Nat × Nat)} (h : ry T n M i ls t w nw np W ((v, l) :: L0) P F) : ry T n M i ls t w nw np W ((v', l) :: L0) P (wq_up F 33 L0.length v') := by
  obtain ⟨h1, h2, ⟨h3, h4⟩, ⟨h5, h6⟩, ⟨h7, h8⟩⟩ := h
  refine ⟨pm_at_x h1 (fun c j a b => wq_up_cell (by omega)) (fun j hj => wq_up_cell (by decide)), ⟨(wq_up_cell (by decide)).trans h2.1, (wq_up_cell (by decide)).trans h2.2.1, (wq_up_cell (by decide)).trans h2.2.2.1, (wq_up_cell (by decide)).trans h2.2.2.2⟩, ⟨(wq_up_cell (by decide)).trans h3, ry_wa_x h4 (fun c j a b _ => wq_up_cell (by omega))⟩, ⟨(wq_up_cell (by decide)).trans h5, ⟨wq_up_same _ _ _ _, (wq_up_cell (by decide)).trans h6.1.2⟩, ry_lo_x h6.2 (fun c j a b d => wq_up_ne (by omega))⟩, ⟨(wq_up_cell (by decide)).trans h7, ry_pl_x h8 (fun c j a b _ => wq_up_cell (by omega))⟩⟩
/-- break -/
theorem st_break {D : Nat} (hM : tk_M T n M) (hn : 10000 < nn) (hc0 : c0.length ≤ 1400) (hO : O ≤ 20000) (hr : ry T n M i ls t w nw np W L P F) (hc : cy T n G0 c0 O i cs s ns np N Q G) (hb : bz N off voff ph cx c np F ls G cs) (hB : bnd i w s nw ns np t (hg c) W L P Q N) (hW : W.length ≤ 20 * t) (hNt : N ≤ t) (hL1 : L.length + 1 ≤ t) (hbo : bo N L F G w s Jr0 Jc0) (hib : ib N L cb c) (hfs : fs c) (hk : tk_k T n i = 4 ∧ tk_V T n (tk_pos T n i) = 2) : wok (dk_118 nn G) (fun _ K => (∃ i' w' s' nw' ns' np' ls' cs' H c' off' voff' ph' L' Jr Jc, rgo nn F ((dk_212 F).bind fun y24 => if y24.1 = 0 then some (0, y24.2) else dk_229 y24.2 (tk_pos T n i)) H ∧ ge T n M G0 c0 O N cx cb F G i ls cs w s nw ns np c off voff ph L Jr0 Jc0 t W P Q H K i' ls' cs' w' s' nw' ns' np' c' off' voff' ph' L' Jr Jc ∧ lo N voff c voff' ph' c' K ∧ rts i w s nw ns i' (w' + 1) (s' + 1) nw' ns' ∧ hg c' + 2 * i ≤ hg c + 2 * i') ∨ ∃ e p, rba nn F ((dk_212 F).bind fun y24 => if y24.1 = 0 then some (0, y24.2) else dk_229 y24.2 (tk_pos T n i)) e p ∧ sx T n G0 c0 O e p N (zz D + 98) K) := by
  have hz : 6200 ≤ zz D ∧ zz D < 9800 := by unfold zz; omega
  obtain ⟨m1, m2, m3, m4, m5, m6, m7, m8, m9, m10, m11, m12⟩ := hB
  have hM1 := hM.1
  have hiM := hr.1.2.2.1
  have hN := hb.1.1
  have h62 := hb.2.2.2.2.2.1
  unfold dk_118
  rw [cy_164 hc hb, od_bS]
  dsimp only
  rcases hbo.2 with ⟨v, L0, eL, jr, jcc, h65⟩ | ⟨hlv, h65, eJ, eC⟩
  · subst eL
    refine wok_f h65 ?_
    refine wok_b (e_77 (cb := cb) (B := 6200) hM hr hc hb (by omega) (by omega) hn hc0 hO (by omega) (by omega) m5 (by omega)) fun r K1 h1 => ?_
    dsimp only
    rcases h1 with ⟨ms, iM, e1, E1, f1⟩ | ⟨e1, hx⟩
    · have k65 : K1 65 (N - 1) = G 65 (N - 1) := f1 65 _ (by omega) (by omega) (by omega)
      rw [cy_164 E1.2.1 E1.2.2.1, od_bS, k65]
      dsimp only
      refine wok_b (cy_78 (op := 21) (a := 0) (b := G 65 (N - 1)) (ln := 0) E1.2.1 E1.2.2.1 (by omega) (hc.2.2.2.2.2 (N - 1) (by omega))) fun r K2 h2 => ?_
      dsimp only
      obtain ⟨hr2, c2, b2, i2, q2, _⟩ := h2
      rw [hr2, dkS_165 (l := N - 1) (by have := b2.1.1; omega) (by omega), od_bS]
      refine wok_r ?_
      have c3 : cy T n G0 c0 O (i + 1) ms (s + 1) ns np N Q (wq_up K2 65 (N - 1) s) := cy_br c2 (okj_p (by omega))
      have x3 : ∀ d j, ¬ d = 65 → wq_up K2 65 (N - 1) s d j = K2 d j := fun d j q => wq_up_cell q
      -- the reference
      have r1 := E1.1
      have f2 : rm_fr F (wq_up F 0 25 (i + 1)) := rm_fr_up (rm_fr_refl _) (by decide) (by decide)
      have x1 : ∀ d j, ¬ d = 0 → wq_up F 0 25 (i + 1) d j = F d j := fun d j q => wq_up_cell q
      have b3F : bz N off voff ph cx c np (wq_up F 0 25 (i + 1)) ls (wq_up K2 65 (N - 1) s) ms := bz_gu b2 (by omega)
      generalize wq_up F 0 25 (i + 1) = F1 at *
      have h56 : F1 0 56 = L0.length + 1 := r1.2.2.2.1.1
      have h33 := r1.2.2.2.1.2.1
      have h53 : F1 0 53 = N - 1 := by have := b3F.1.1; omega
      have hlen : L0.length + 1 ≤ t := m9.1
      have hw1 : F1 0 41 = w := r1.2.1.2.1
      have hd : ((dk_212 F).bind fun y24 => if y24.1 = 0 then some (0, y24.2) else dk_229 y24.2 (tk_pos T n i)) = some (1, wq_up (pm_em F1 21 v 0 0) 33 L0.length w) := by
        rw [e1, od_bS]
        dsimp only
        rw [if_neg (by decide)]
        unfold dk_229
        rw [h56, if_neg (by omega), show (L0.length + 1 + (4294967296 - 1)) % 4294967296 = L0.length by omega, od_letS, od_g1 (by omega), if_pos (h33.2.trans h53.symm), od_letS, od_letS, od_g1 (by omega), h33.1, dkS_30 (by omega), od_bS]
        dsimp only
        rw [od_g1 (by omega), od_upS, hw1]
      have hat := pm_em_at (F := F1) (op := 21) (a := v) (b := 0) (ln := 0)
      rw [hw1] at hat
      have r3 : ry T n M (i + 1) ls t (w + 1) nw np W ((w, N - 1) :: L0) P (wq_up (pm_em F1 21 v 0 0) 33 L0.length w) := ry_ch (ry_em r1)
      have f3 : rm_fr F (wq_up (pm_em F1 21 v 0 0) 33 L0.length w) := rm_fr_up (rm_fr_em f2) (by decide) (fun z => absurd z (by decide))
      have b4 : bz N off voff ph cx c np (wq_up (pm_em F1 21 v 0 0) 33 L0.length w) ls (wq_up K2 65 (N - 1) s) ms := bz_fu (bz_em b3F) (by omega)
      have y3 : ∀ d j, ¬ d = 0 → ¬ (20 ≤ d ∧ d ≤ 23 ∧ j = w) → ¬ d = 33 → wq_up (pm_em F1 21 v 0 0) 33 L0.length w d j = F d j := fun d j a b e => by
        rw [wq_up_cell e, pm_em_ne (by omega) (by omega), x1 d j a]
      have z3 : wq_up (pm_em F1 21 v 0 0) 33 L0.length w 20 w = 21 ∧ wq_up (pm_em F1 21 v 0 0) 33 L0.length w 21 w = v := ⟨(wq_up_cell (by decide)).trans hat.1, (wq_up_cell (by decide)).trans hat.2.1⟩
      have g3 : rgo nn F ((dk_212 F).bind fun y24 => if y24.1 = 0 then some (0, y24.2) else dk_229 y24.2 (tk_pos T n i)) (wq_up (pm_em F1 21 v 0 0) 33 L0.length w) := rgo_i hd (by decide) r3.1.1 f3
      generalize wq_up (pm_em F1 21 v 0 0) 33 L0.length w = H3 at *
      have k1 : ∀ d j, (17 ≤ d ∧ d ≤ 23) ∨ (12 ≤ d ∧ d ≤ 15 ∧ j < s) ∨ (d = 16 ∧ j < ns) ∨ d = 62 ∨ d = 61 ∨ d = 60 → wq_up K2 65 (N - 1) s d j = G d j := fun d j q => by
        rw [x3 d j (by omega), q2 d j (by omega), f1 d j (by omega) (by omega) (by omega)]
      have k65' : wq_up K2 65 (N - 1) s 65 (N - 1) = s := wq_up_same _ _ _ _
      have k65l : ∀ l, l + 1 < N → wq_up K2 65 (N - 1) s 65 l = G 65 l := fun l hl => by
        rw [wq_up_at (by omega), q2 65 l (by omega), f1 65 l (by omega) (by omega) (by omega)]
      have k14 : wq_up K2 65 (N - 1) s 14 s = G 65 (N - 1) := (wq_up_cell (by decide)).trans i2.2.2.1
      have k12 : wq_up K2 65 (N - 1) s 12 s = 21 := (wq_up_cell (by decide)).trans i2.1
      generalize wq_up K2 65 (N - 1) s = K3 at *
      obtain ⟨ca, eca, hca⟩ := hib ⟨v, L0, rfl⟩
      refine Or.inl ⟨i + 1, w + 1, s + 1, nw, ns, np, ls, ms, H3, c, off, voff, ph, (w, N - 1) :: L0, [w], [s], g3, ⟨r3, c3, b4, ?_, ⟨st_sf_refl _, E1.2.2.2.2.1.2.1, ⟨fun l hl => k1 62 l (by omega), k65l, fun l hl e6 h6 => k1 e6 l (by omega)⟩⟩, ⟨by omega, m5⟩, ve_refl, ⟨fun e he => ?_, Or.inl ⟨w, L0, rfl, ⟨rfl, by omega, ?_⟩, ?_, ?_⟩⟩, ⟨rfl, rfl, fun z => absurd (z (v, N - 1) (List.mem_cons_self ..)) (Nat.lt_irrefl _)⟩⟩, lo_refl rfl, ⟨by omega, by omega, by omega, by omega, by omega⟩, by omega⟩
      · refine ⟨⟨by omega, by omega, by omega, by omega, by omega⟩, ka_x (fun d j q => y3 d j (by omega) (by omega) (by omega)), kb_x (fun d j q => k1 d j (by omega)), ⟨fun j hj => by rw [List.mem_singleton.mp hj]; omega, fun j hj => by rw [List.mem_singleton.mp hj]; omega⟩, fun H J nm X wb sb ha2 hb2 _ h4 h5 _ => ?_⟩
        have a20 : H 20 w = 21 := by
          rw [ha2.1 20 w (by decide) (by decide) (by omega) (by omega), jl_ne (by omega)]
          exact z3.1
        have a21 : H 21 w = wb := by
          rw [ha2.1 21 w (by decide) (by decide) (by omega) (by omega)]
          exact jl_at (List.mem_singleton.mpr rfl)
        have b12 : J 12 s = 21 := by
          rw [hb2.1 12 s (by decide) (by decide) (by omega) (by omega), jl_ne (by omega)]
          exact k12
        have b14 : J 14 s = sb := by
          rw [hb2.1 14 s (by decide) (by decide) (by omega) (by omega)]
          exact jl_at (List.mem_singleton.mpr rfl)
        have hwb := h4 w (List.mem_singleton.mpr rfl)
        refine sg_s (l := [(G 62 (N - 1), wb, sb, c)]) (Or.inl ⟨23, a20, b12, Or.inl ?_, ?_⟩) (fun u hu => ?_)
        · show w < H 21 w
          rw [a21]
          exact hwb
        · show _ = [(G 62 (N - 1), H 21 w, J 14 s, c)]
          rw [a21, b14]
        · rw [List.mem_singleton.mp hu, eca]
          exact h5 (fun z => by cases z) ca hca
      · rcases List.mem_cons.mp he with q | q
        · rw [q]
          show N - 1 < N
          omega
        · exact hbo.1 e (List.mem_cons_of_mem _ q)
      · rw [z3.2]
        exact jc_ext jr (fun j hj => y3 21 j (by decide) (by have := jc_lt jr j hj; omega) (by decide))
      · show jc (K3 14) (K3 65 (N - 1)) (s + 1) ([s] ++ Jc0)
        rw [k65']
        refine ⟨rfl, by omega, ?_⟩
        rw [k14]
        exact jc_ext jcc (fun j hj => k1 14 j (by have := jc_lt jcc j hj; omega))
      · show ¬ K3 65 (N - 1) = 4294967294
        rw [k65']
        omega
    · have hd : ((dk_212 F).bind fun y24 => if y24.1 = 0 then some (0, y24.2) else dk_229 y24.2 (tk_pos T n i)) = some (0, pm_f F 3 (tk_pos T n i)) := by
        rw [e1, od_bS]
        dsimp only
        rw [if_pos rfl]
      have ho := rba_f (nn := nn) hd (rm_fr_refl _) (by rw [hr.2.1.2.1]; omega)
      refine wok_b (sx_164 hx) fun r K h => ?_
      dsimp only
      refine wok_b (sx_78 h.2 (by decide) h.1) fun r K h => ?_
      exact wok_b (sx_165 h.2 (okj_p h.1)) fun r K h => wok_r (Or.inr ⟨_, _, ho, sx_le h (by omega)⟩)
  · refine wok_t h65 (wok_b (bt_f4 (B := 6200) hM hr hc hb (by omega) (by omega) (by omega) m5 (by omega)) fun r K hx => wok_r (Or.inr ⟨if i = 1500 then 3 else 4, tk_pos T n i, ?_, sx_le hx (by omega)⟩))
    have ht := pm_take hM hr.1 (by omega)
    by_cases q : i = 1500
    · rw [if_pos q] at ht ⊢
      have hd : ((dk_212 F).bind fun y24 => if y24.1 = 0 then some (0, y24.2) else dk_229 y24.2 (tk_pos T n i)) = some (0, pm_f F 3 (tk_pos T n i)) := by
        rw [ht, od_bS]
        dsimp only
        rw [if_pos rfl]
      exact rba_f hd (rm_fr_refl _) (by rw [hr.2.1.2.1]; omega)
    · rw [if_neg q] at ht ⊢
      have h4 : wq_up F 0 25 (i + 1) 0 4 = 0 := (wq_up_at (by decide)).trans hr.1.1
      have h56 : wq_up F 0 25 (i + 1) 0 56 = L.length := (wq_up_at (by decide)).trans hr.2.2.2.1.1
      have h53 : wq_up F 0 25 (i + 1) 0 53 = N - 1 := by
        rw [wq_up_at (by decide)]
        omega
      have f2 : rm_fr F (wq_up F 0 25 (i + 1)) := rm_fr_up (rm_fr_refl _) (by decide) (by decide)
      have hw1 : wq_up F 0 25 (i + 1) 0 41 = w := (wq_up_at (by decide)).trans hr.2.1.2.1
      have h34 := hr.2.2.2.1.2
      have hlen := m9.1
      have h209 : dk_209 (wq_up F 0 25 (i + 1)) 4 (tk_pos T n i) = some (0, pm_f (wq_up F 0 25 (i + 1)) 4 (tk_pos T n i)) := by
        unfold dk_209
        rw [if_pos h4, od_upS, od_upS]
        rfl
      have x34 : ∀ j, wq_up F 0 25 (i + 1) 34 j = F 34 j := fun j => wq_up_cell (by decide)
      have hd : ((dk_212 F).bind fun y24 => if y24.1 = 0 then some (0, y24.2) else dk_229 y24.2 (tk_pos T n i)) = some (0, pm_f (wq_up F 0 25 (i + 1)) 4 (tk_pos T n i)) := by
        rw [ht, od_bS]
        dsimp only
        rw [if_neg (by decide)]
        generalize wq_up F 0 25 (i + 1) = F1 at *
        unfold dk_229
        cases L with
        | nil =>
          have h56 : F1 0 56 = 0 := h56
          rw [if_pos h56, h209, od_bS]
        | cons e L0 =>
          have h56 : F1 0 56 = L0.length + 1 := h56
          have hlen : L0.length + 1 ≤ t := hlen
          have z := hlv e (List.mem_cons_self ..)
          have h34 : F 34 L0.length = e.2 := h34.1.2
          rw [h56, if_neg (by omega), show (L0.length + 1 + (4294967296 - 1)) % 4294967296 = L0.length by omega, od_letS, od_g1 (by omega), if_neg (by rw [x34, h34, h53]; omega), h209, od_bS]
      exact rba_f hd f2 (by omega)
/-- do .. end -/
theorem st_do {D k : Nat} (hM : tk_M T n M) (hn : 10000 < nn) (hc0 : c0.length ≤ 1400) (hO : O ≤ 20000) (hD : D ≤ 20) (hBk : Bk_ok nn T n M G0 c0 O (D + 1)) (hkf : 20 * (22 - D) + 10 ≤ k) (htD : t = D) (hr : ry T n M i ls t w nw np W L P F) (hc : cy T n G0 c0 O i cs s ns np N Q G) (hb : bz N off voff ph cx c np F ls G cs) (hB : bnd i w s nw ns np t (hg c) W L P Q N) (hW : W.length ≤ 20 * t) (hNt : N ≤ t) (hL1 : L.length + 1 ≤ t) (hbo : bo N L F G w s Jr0 Jc0) (hib : ib N L cb c) (hfs : fs c) (hk : tk_k T n i = 4 ∧ tk_V T n (tk_pos T n i) = 3) : wok ((dk_77 nn G).bind fun y22 => (dk_R nn k 115 [(D + 1) % 4294967296] y22.2).bind fun y26 => (dk_110 nn y26.2 15).bind fun y30 => some (0, y30.2)) (fun _ K => (∃ i' w' s' nw' ns' np' ls' cs' H c' off' voff' ph' L' Jr Jc, rgo nn F ((dk_212 F).bind fun y24 => if y24.1 = 0 then some (0, y24.2) else (dk_31 y24.2 30 0 0 0).bind fun y34 => (dk_224 y34.2).bind fun y38 => some (1, y38.2)) H ∧ ge T n M G0 c0 O N cx cb F G i ls cs w s nw ns np c off voff ph L Jr0 Jc0 t W P Q H K i' ls' cs' w' s' nw' ns' np' c' off' voff' ph' L' Jr Jc ∧ lo N voff c voff' ph' c' K ∧ rts i w s nw ns i' (w' + 1) (s' + 1) nw' ns' ∧ hg c' + 2 * i ≤ hg c + 2 * i') ∨ ∃ e p, rba nn F ((dk_212 F).bind fun y24 => if y24.1 = 0 then some (0, y24.2) else (dk_31 y24.2 30 0 0 0).bind fun y34 => (dk_224 y34.2).bind fun y38 => some (1, y38.2)) e p ∧ sx T n G0 c0 O e p N (zz D + 98) K) := by
  have hz : 6200 ≤ zz D ∧ zz D < 9800 ∧ zz (D + 1) + 110 = zz D := by unfold zz; omega
  obtain ⟨m1, m2, m3, m4, m5, m6, m7, m8, m9, m10, m11, m12⟩ := hB
  have hM1 := hM.1
  have hiM := hr.1.2.2.1
  have hN := hb.1.1
  have h62 := hb.2.2.2.2.2.1
  have hw1 : F 0 41 = w := hr.2.1.2.1
  rw [Nat.mod_eq_of_lt (show D + 1 < 4294967296 by omega)]
  refine wok_b (e_77 (cb := cb) (B := 6200) hM hr hc hb (by omega) (by omega) hn hc0 hO (by omega) (by omega) m5 (by omega)) fun r K1 h1 => ?_
  dsimp only
  rcases h1 with ⟨ms, iM, e1, E1, f1⟩ | ⟨e1, hx⟩
  rotate_left
  · have hd : ((dk_212 F).bind fun y24 => if y24.1 = 0 then some (0, y24.2) else (dk_31 y24.2 30 0 0 0).bind fun y34 => (dk_224 y34.2).bind fun y38 => some (1, y38.2)) = some (0, pm_f F 3 (tk_pos T n i)) := by
      rw [e1, od_bS]
      dsimp only
      rw [if_pos rfl]
    have ho := rba_f (nn := nn) hd (rm_fr_refl _) (by omega)
    refine wok_b (sx_115 hx (by omega) hn (by decide)) fun r K h => ?_
    exact wok_b (sx_110 h (by decide)) fun r K h => wok_r (Or.inr ⟨_, _, ho, sx_le h (by omega)⟩)
  have f2 : rm_fr F (wq_up F 0 25 (i + 1)) := rm_fr_up (rm_fr_refl _) (by decide) (by decide)
  have h50 : wq_up F 0 25 (i + 1) 0 50 = voff N := (wq_up_at (by decide)).trans hN.2.2.2.2.2.2.2.1
  have e2 := e_la (cb := cb) (x1 := 30) (x2 := 0) (x3 := 0) (x4 := 0) E1.1 E1.2.1 E1.2.2.1 m5
  have e3 := e_la (cb := cb) (x1 := 2) (x2 := voff N) (x3 := 0) (x4 := 0) e2.1 e2.2.1 e2.2.2.1 m5
  have e4 := e_la (cb := cb) (x1 := 0) (x2 := 0) (x3 := 0) (x4 := 0) e3.1 e3.2.1 e3.2.2.1 m5
  have h621 := E1.2.2.1.2.2.2.2.2.1
  have E4 := eg_t E1 (eg_t e2 (eg_t e3 e4 h621) h621) h62
  have hd : ((dk_212 F).bind fun y24 => if y24.1 = 0 then some (0, y24.2) else (dk_31 y24.2 30 0 0 0).bind fun y34 => (dk_224 y34.2).bind fun y38 => some (1, y38.2)) = some (1, pm_la (pm_la (pm_la (wq_up F 0 25 (i + 1)) 30 0 0 0) 2 (voff N) 0 0) 0 0 0 0) := by
    rw [e1, od_bS]
    dsimp only
    rw [if_neg (by decide), dkS_31 (by rw [E1.1.2.2.1.1]; omega), od_bS]
    dsimp only
    unfold dk_224
    rw [pm_la_ne (by omega) (by omega), h50, dkS_31 (by rw [e2.1.2.2.1.1]; show W.length + 1 < 4000; omega), od_bS]
    dsimp only
    rw [dkS_31 (by rw [e3.1.2.2.1.1]; show W.length + 2 < 4000; omega), od_bS, od_bS]
  have f4 : rm_fr F (pm_la (pm_la (pm_la (wq_up F 0 25 (i + 1)) 30 0 0 0) 2 (voff N) 0 0) 0 0 0 0) := rm_fr_la (rm_fr_la (rm_fr_la f2))
  generalize pm_la (pm_la (pm_la (wq_up F 0 25 (i + 1)) 30 0 0 0) 2 (voff N) 0 0) 0 0 0 0 = F4 at *
  have g4 : rgo nn F ((dk_212 F).bind fun y24 => if y24.1 = 0 then some (0, y24.2) else (dk_31 y24.2 30 0 0 0).bind fun y34 => (dk_224 y34.2).bind fun y38 => some (1, y38.2)) F4 := rgo_i hd (by decide) E4.1.1.1 f4
  generalize ((dk_212 F).bind fun y24 => if y24.1 = 0 then some (0, y24.2) else (dk_31 y24.2 30 0 0 0).bind fun y34 => (dk_224 y34.2).bind fun y38 => some (1, y38.2)) = mm at *
  have G4 := ge_eg E4 hbo
  refine wok_b (cb_ok (cb := cb) (k := k) hM hn hc0 hO (by omega) hBk (by omega) (by omega) E4.1 E4.2.1 E4.2.2.1 ⟨by omega, by omega, by omega, by omega, m5, m6, by omega, by show W.length + 1 ≤ _; omega, m9, m10, m11, m12⟩ (by show W.length + 1 ≤ _; omega) G4.2.2.2.2.2.2.2.1 hib hfs) fun r K5 h5 => ?_
  dsimp only
  rcases h5 with ⟨i5, w5, s5, nw5, ns5, np5, ls5, cs5, H5, L5, Jr, Jc, g5, ge5, u1, u2, u3, u4, u5⟩ | ⟨e, p, ho, hx⟩
  rotate_left
  · exact wok_b (sxy_110 hx (by decide) (by decide)) fun r K h => wok_r (Or.inr ⟨e, p, rgo_o g4 ho, sx_le h (by omega)⟩)
  have i5M := ge5.1.1.2.2.1
  have n5 : np5 ≤ 50 := ge5.2.2.2.2.2.1.2
  have G5 := ge_t G4 ge5 h62
  have hgo := fun H => ry_go (nn := nn) (H := H) ge5.1 (by show W.length < 4000; omega)
  have hba := fun k p => ry_ba (nn := nn) (k := k) (p := p) ge5.1 (by show W.length < 4000; omega)
  have e6 := e_pop (cb := cb) ge5.1 ge5.2.1 ge5.2.2.1 n5
  have f6 : rm_fr H5 (wq_up H5 0 46 W.length) := rm_fr_up (rm_fr_refl _) (by decide) (by decide)
  have h33 : dk_32 nn (wq_up H5 0 46 W.length) (30, 0, 0, 0).1 (30, 0, 0, 0).2.1 (30, 0, 0, 0).2.2.1 (30, 0, 0, 0).2.2.2 = dk_214 (wq_up H5 0 46 W.length) 6 := by
    show dk_32 nn (wq_up H5 0 46 W.length) 30 0 0 0 = _
    rw [dk32_30b]
  generalize dk_32 nn (wq_up H5 0 46 W.length) (30, 0, 0, 0).1 (30, 0, 0, 0).2.1 (30, 0, 0, 0).2.2.1 (30, 0, 0, 0).2.2.2 = m6' at *
  generalize wq_up H5 0 46 W.length = H6 at *
  refine wok_b (e_wd (cb := cb) (x := 6) (B := 6210) hM e6.1 e6.2.1 e6.2.2.1 (by decide) hn hc0 hO (by omega) (by omega) n5 (by omega)) fun r K7 h7 => wok_r ?_
  dsimp only
  rcases h7 with ⟨ms7, iM7, e7, E7, f7⟩ | ⟨kk, e7, hx⟩
  · have g7 := hgo _ (rgo_i (h33.trans e7) (by decide) E7.1.1.1 (rm_fr_up f6 (by decide) (by decide)))
    refine Or.inl ⟨i5 + 1, w5, s5, nw5, ns5, np5, ls5, ms7, wq_up H6 0 25 (i5 + 1), c, off, voff, ph, L5, _, _, rgo_t g4 ⟨rm_trans g5.1 g7.1, rm_fr_trans g5.2 g7.2⟩, ge_x (ge_x G5 e6 h62) E7 h62, lo_refl rfl, ⟨by omega, by omega, by omega, by omega, by omega⟩, by omega⟩
  · have ho := hba _ _ (rba_f (h33.trans e7) f6 (by rw [e6.1.2.1.2.1]; omega))
    exact Or.inr ⟨_, _, rgo_o g4 (rm_to_out g5.1 g5.2 ho), sx_le hx (by omega)⟩
end
