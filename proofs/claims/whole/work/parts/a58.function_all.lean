/-! ===== a58: function, all of it (wip/whole2/lawa58.py) ===== -/
section
variable {nn : Nat} {T : Nat → Nat} {n M O : Nat} {G0 : wq_F} {c0 : List (List Nat)} {i t w s nw ns np N : Nat} {off voff ph : Nat → Nat} {cx : Nat → List Nat} {c cb : List Nat} {W : List (Nat × Nat × Nat × Nat)} {L : List (Nat × Nat)} {P Q : List (Nat × Nat × Nat)} {ls cs : List (List Nat)} {F G : wq_F}

variable {Jr0 Jc0 : List Nat}
theorem st_function {D k : Nat} (hM : tk_M T n M) (hn : 10000 < nn) (hc0 : c0.length ≤ 1400) (hO : O ≤ 20000) (hD : D ≤ 20) (hBf : B_ok nn T n M G0 c0 O D) (hkf : 20 * (22 - D) + 13 ≤ k) (htD : t = D) (hr : ry T n M i ls t w nw np W L P F) (hc : cy T n G0 c0 O i cs s ns np N Q G) (hb : bz N off voff ph cx c np F ls G cs) (hB : bnd i w s nw ns np t (hg c) W L P Q N) (hW : W.length ≤ 20 * t) (hNt : N ≤ t) (hL1 : L.length + 1 ≤ t) (hbo : bo N L F G w s Jr0 Jc0) (hib : ib N L cb c) (hfs : fs c) (hk : tk_k T n i = 4 ∧ tk_V T n (tk_pos T n i) = 9) : wok (dk_131 (dk_R nn k) nn G D) (fun _ K => (∃ i' w' s' nw' ns' np' ls' cs' H c' off' voff' ph' L' Jr Jc, rgo nn F ((dk_212 F).bind fun y24 => if y24.1 = 0 then some (0, y24.2) else (dk_232 nn y24.2).bind fun y74 => some (y74.1, y74.2)) H ∧ ge T n M G0 c0 O N cx cb F G i ls cs w s nw ns np c off voff ph L Jr0 Jc0 t W P Q H K i' ls' cs' w' s' nw' ns' np' c' off' voff' ph' L' Jr Jc ∧ lo N voff c voff' ph' c' K ∧ rts i w s nw ns i' (w' + 1) (s' + 1) nw' ns' ∧ hg c' + 2 * i ≤ hg c + 2 * i') ∨ ∃ e p, rba nn F ((dk_212 F).bind fun y24 => if y24.1 = 0 then some (0, y24.2) else (dk_232 nn y24.2).bind fun y74 => some (y74.1, y74.2)) e p ∧ sx T n G0 c0 O e p N (zz D + 98) K) := by
  have hz : 6200 ≤ zz D ∧ zz D < 9800 := by unfold zz; omega
  obtain ⟨m1, m2, m3, m4, m5, m6, m7, m8, m9, m10, m11, m12⟩ := hB
  have hM1 := hM.1
  have hiM := hr.1.2.2.1
  have hN := hb.1.1
  have h62 := hb.2.2.2.2.2.1
  have hw1 : F 0 41 = w := hr.2.1.2.1
  obtain ⟨g0, hg0⟩ : ∃ a, nn = a + 1 := ⟨nn - 1, by omega⟩
  have sxl : ∀ {e p B x : Nat} {K : wq_F}, sx T n G0 c0 O e p N B K → B + 2 < 10000 → wok (dk_131_18 (dk_R nn k) nn nn K D (hg c) x) (fun _ K => sx T n G0 c0 O e p N (B + 2) K) := fun {e p B x K} hx hB => by
    rw [show dk_131_18 (dk_R nn k) nn nn = dk_131_18 (dk_R nn k) nn (g0 + 1) by rw [← hg0]]
    exact sx_131 hx (by omega) hB
  unfold dk_131
  rw [cy_84 hc hb, od_bS]
  dsimp only
  refine wok_b (e_77 (cb := cb) (B := 6200) hM hr hc hb (by omega) (by omega) hn hc0 hO (by omega) (by omega) m5 (by omega)) fun r K1 h1 => ?_
  dsimp only
  rcases h1 with ⟨ms, iM, e1, E1, f1⟩ | ⟨e1, hx⟩
  rotate_left
  · have hd : ((dk_212 F).bind fun y24 => if y24.1 = 0 then some (0, y24.2) else (dk_232 nn y24.2).bind fun y74 => some (y74.1, y74.2)) = some (0, pm_f F 3 (tk_pos T n i)) := by
      rw [e1, od_bS]
      dsimp only
      rw [if_pos rfl]
    have ho := rba_f (nn := nn) hd (rm_fr_refl _) (by omega)
    refine wok_b (sx_133 hx) fun r K h => ?_
    exact wok_m (sxl h (by omega)) fun r K h => Or.inr ⟨_, _, ho, sx_le h (by omega)⟩
  have ff1 : rm_fr F (wq_up F 0 25 (i + 1)) := rm_fr_up (rm_fr_refl _) (by decide) (by decide)
  have hd0 : ((dk_212 F).bind fun y24 => if y24.1 = 0 then some (0, y24.2) else (dk_232 nn y24.2).bind fun y74 => some (y74.1, y74.2)) = dk_232 nn (wq_up F 0 25 (i + 1)) := by
    rw [e1, od_bS]
    dsimp only
    rw [if_neg (by decide), od_bI]
  generalize ((dk_212 F).bind fun y24 => if y24.1 = 0 then some (0, y24.2) else (dk_232 nn y24.2).bind fun y74 => some (y74.1, y74.2)) = mm at *
  generalize wq_up F 0 25 (i + 1) = F1 at *
  have hkd := pm_kind E1.1.1
  have h57 : K1 57 4 = tk_ty T n (tk_pos T n (i + 1)) := E1.2.1.1.2.1.1
  unfold dk_232 at hd0
  rw [od_g1 (pm_b hM E1.1.1)] at hd0
  by_cases q1 : tk_k T n (i + 1) = 1
  rotate_left
  · obtain ⟨a1, a2⟩ := bt_wr (B := 6200) hM E1.1 E1.2.1 E1.2.2.1 (by omega) (by omega) m5 (by omega)
    rw [if_neg (fun z => q1 (hkd.symm.trans z)), a1, od_bS] at hd0
    have ho := rba_f (nn := nn) hd0 ff1 (by rw [E1.1.2.1.2.1]; omega)
    refine wok_b (A := fun _ K => sx T n G0 c0 O (tk_wr T n (i + 1)) (tk_pos T n (i + 1)) N 6200 K) ?_ fun r K hx => ?_
    · unfold dk_133
      exact wok_f (fun z => q1 (tk_ty_kind.1.mp (h57.symm.trans z))) (wok_b a2 fun r K h => wok_r h)
    · exact wok_m (sxl hx (by omega)) fun r K h => Or.inr ⟨_, _, ho, sx_le h (by omega)⟩
  -- a name
  have t57 : K1 57 4 = 2 := h57.trans (tk_ty_kind.1.mpr q1)
  have em := e_mark (cb := cb) (a := 0) (b := 0) (l := 0) E1.1 E1.2.1 E1.2.2.1 m5
  have E2 := eg_t E1 em h62
  have w1 : F1 0 41 = w := E1.1.2.1.2.1
  rw [if_pos (hkd.trans q1), dkS_30 (by omega), od_bS] at hd0
  dsimp only at hd0
  have ff2 : rm_fr F (pm_em F1 14 0 0 0) := rm_fr_em ff1
  generalize pm_em F1 14 0 0 0 = F2 at *
  have r2 := em.1
  have b2 := em.2.2.1
  have c1 := em.2.1
  rw [od_g1 (pm_b hM r2.1), od_letS, pm_here hM r2.1, od_bS] at hd0
  dsimp only at hd0
  have h62K : ∀ l, l < N → K1 62 l < np := b2.2.2.2.2.2.1
  rcases name_both (nn := nn) hM r2 c1 b2 q1 hn (by omega) (by omega) m5 (by omega) hc0 with ⟨H, A, d1, d2, d3, d4, d5, d6, d7, d8, d9, d10, d11, d12, d13⟩ | ⟨H, A, d1, d2, d3, d4, d5, d6, d7⟩
  rotate_left
  · rw [d1, od_bS] at hd0
    dsimp only at hd0
    rw [if_pos (by rw [d3]; decide)] at hd0
    have w2 : F2 0 41 = w + 1 := r2.2.1.2.1
    have ho := rba_i (nn := nn) (A := F) hd0 (Or.inl rfl) d3 d4 (rm_fr_trans ff2 d5) (by rw [d6 41 (by decide), w2]; omega)
    refine wok_b (A := fun _ K => sx T n G0 c0 O 3 (tk_pos T n (i + 1)) N 6200 K) ?_ fun r K hx => ?_
    · unfold dk_133
      refine wok_t t57 ?_
      rw [d2, od_bS]
      dsimp only
      exact wok_t rfl (wok_b d7 fun r K h => wok_r h)
    · exact wok_m (sxl hx (by omega)) fun r K h => Or.inr ⟨_, _, ho, sx_le h (by omega)⟩
  rw [d1, od_bS] at hd0
  dsimp only at hd0
  rw [if_neg (by rw [d3.1.1]; decide)] at hd0
  have c5 : cy T n G0 c0 O (i + 1) ms s ns np N Q (wq_up (wq_up A 56 7 (A 59 10)) 56 8 (A 59 11)) := cy_up (cy_up d4 (by unfold cy_n; omega)) (by unfold cy_n; omega)
  have b5 : bz N off voff ph cx (1 :: c) np H ls (wq_up (wq_up A 56 7 (A 59 10)) 56 8 (A 59 11)) ms := bz_gu (bz_gu d5 (by omega)) (by omega)
  refine wok_b (A := fun _ K => (∃ ms', i + 1 < M ∧ dk_212 H = some (1, wq_up H 0 25 (i + 1 + 1)) ∧ cy T n G0 c0 O (i + 1 + 1) ms' s ns np N Q K ∧ bz N off voff ph cx (1 :: c) np H ls K ms' ∧ px_fr (wq_up (wq_up A 56 7 (A 59 10)) 56 8 (A 59 11)) K ∧ st_pre ms ms') ∨ (dk_212 H = some (0, pm_f H 3 (tk_pos T n (i + 1))) ∧ sx T n G0 c0 O 3 (tk_pos T n (i + 1)) N 6200 K)) ?_ fun r K hK => ?_
  · unfold dk_133
    refine wok_t t57 ?_
    rw [d2, od_bS]
    dsimp only
    refine wok_f (by decide) (wok_u ?_)
    rw [show wq_up A 56 7 (A 59 10) 59 11 = A 59 11 from wq_up_cell (by decide)]
    refine wok_u (wok_b (bt_77 (B := 6200) hM d3 c5 b5 (by omega) (by omega) (by omega) hc0 hO (by omega) (by omega) m5 (by omega)) fun r K h => wok_r ?_)
    rcases h with ⟨a1, a2, ms', a3, a4, a5, a6⟩ | z
    · exact Or.inl ⟨ms', a1, a2, a3, a4, a5, a6⟩
    · exact Or.inr z
  dsimp only
  rcases hK with ⟨ms', iM2, e2, c6, b6, f6, p6⟩ | ⟨e2, hx⟩
  rotate_left
  · rw [e2, od_bS] at hd0
    have ho := rba_f (nn := nn) (hd0.trans (if_pos rfl)) (rm_fr_trans ff2 d6) (by rw [d3.2.1.2.1]; omega)
    exact wok_m (sxl hx (by omega)) fun r K h => Or.inr ⟨_, _, ho, sx_le h (by omega)⟩
  rw [e2, od_bS] at hd0
  dsimp only at hd0
  rw [if_neg (by decide)] at hd0
  have hr7 := ry_nx d3 iM2
  have ff7 : rm_fr F (wq_up H 0 25 (i + 1 + 1)) := rm_fr_up (rm_fr_trans ff2 d6) (by decide) (by decide)
  have z7 : ∀ d j, ¬ (d = 0 ∧ j = 25) → wq_up H 0 25 (i + 1 + 1) d j = H d j := fun d j q => wq_up_ne q
  have b7 : bz N off voff ph cx (1 :: c) np (wq_up H 0 25 (i + 1 + 1)) ls K ms' := bz_fu b6 (by omega)
  generalize wq_up H 0 25 (i + 1 + 1) = F7 at *
  have k7 : K 56 7 = A 59 10 := (f6 56 7 (by decide) (by decide) (by decide)).trans (by rw [wq_up_at (by decide), wq_up_same])
  have k8 : K 56 8 = A 59 11 := (f6 56 8 (by decide) (by decide) (by decide)).trans (wq_up_same _ _ _ _)
  have r61 : F7 0 61 = H 0 61 := z7 0 61 (by decide)
  have r62 : F7 0 62 = H 0 62 := z7 0 62 (by decide)
  have r15 : F7 15 (K1 62 (N - 1)) = H 15 (K1 62 (N - 1)) := z7 15 _ (by omega)
  have kA : ∀ d j, (17 ≤ d ∧ d ≤ 23) ∨ (12 ≤ d ∧ d ≤ 15 ∧ j < s) ∨ (d = 16 ∧ j < ns) ∨ d = 62 ∨ d = 65 ∨ d = 61 ∨ d = 60 → K d j = A d j := fun d j q => (f6 d j (by omega) (by omega) (by omega)).trans (by rw [wq_up_cell (by omega), wq_up_cell (by omega)])
  have h62' : ∀ g, np ≤ g → ¬ lvl N K1 g := fun g hg ⟨l, l1, l2⟩ => by have := h62K l l1; omega
  have pp := pj_t (f := K1 62 (N - 1)) (cb := cb) (c := 1 :: c) (pj_k (ls := ls) (cs := ms) d8 d9) (pj_n (ls := ls) (cs := ms') (fun d j q => z7 d j (by omega)) (fun d j q => kA d j (by omega))) (st_pre_refl _) p6 h62' (h62K (N - 1) (by omega))
  have e7 : eg T n M G0 c0 O N off voff ph cx cb F2 K1 (i + 1) ls ms (w + 1) s nw ns np (1 :: c) t W L P Q F7 K (i + 1 + 1) ls ms' (w + 1) s nw ns np (1 :: c) := ⟨hr7, c6, b7, pp, ⟨st_sf_refl _, p6, ⟨fun l hl => ⟨(kA 62 l (by omega)).trans (d10.1 l hl).1, (kA 65 l (by omega)).trans (d10.1 l hl).2⟩, fun l hl e6 h6 => (kA e6 l (by omega)).trans (d10.2 l hl e6 h6)⟩⟩, Nat.le_succ _, m5⟩
  have t7 : tlr cb N F2 K1 (w + 1) s nw ns np (1 :: c) F7 K ls ms' (w + 1) s nw ns np (1 :: c) ∧ F7 0 61 ≤ 3 := by
    unfold tlr
    rw [r61, r62, k7, k8, r15]
    rcases d7 with ⟨z1, z2, z3⟩ | ⟨z1, z2, z3, z4⟩ | ⟨z1, z2, z3, z4, z5⟩
    · exact ⟨Or.inl ⟨z1, z2, rfl, z3⟩, by omega⟩
    · exact ⟨Or.inr (Or.inl ⟨z1, z2, rfl, z3, z4⟩), by omega⟩
    · exact ⟨Or.inr (Or.inr (Or.inl ⟨z1, z2, rfl, z3, Nat.lt_of_lt_of_le z4 p6.1, by rw [p6.2 _ z4]; exact z5⟩)), by omega⟩
  refine wok_m (fn_loop (D := D) (k := k) hM h62K hn hc0 hO hD hBf hkf htD ⟨m6, by omega, hW, m9, m10, m11, m12⟩ hNt nn nn 0 (i + 1 + 1) (w + 1) s nw ns np ls ms' (1 :: c) F7 K (by omega) (by omega) (by omega) (by omega) e7 t7.1 t7.2 ⟨by omega, by omega, by omega, by omega, m5⟩) fun r K h => ?_
  rw [← hd0] at h
  rcases h with ⟨i', w', s', nw', ns', np', ls', cs', H', g, E3, u1, u2, u3, u4, u5⟩ | ⟨e, p, ho, hx⟩
  · exact Or.inl ⟨i', w', s', nw', ns', np', ls', cs', H', c, off, voff, ph, L, [], [], rgo_fr g ff7, ge_eg (eg_t E2 E3 h62) hbo, lo_refl rfl, ⟨by omega, by omega, by omega, by omega, by omega⟩, by omega⟩
  · exact Or.inr ⟨e, p, rba_fr ho ff7, sx_le hx (by omega)⟩
end
