/-! ===== a15: a chain (wip/whole2/lawa15.py) ===== -/
section
variable {nn : Nat} {T : Nat → Nat} {n M O : Nat} {G0 : wq_F} {c0 : List (List Nat)} {i t w s nw ns np N : Nat} {off voff ph : Nat → Nat} {cx : Nat → List Nat} {c cb : List Nat} {W : List (Nat × Nat × Nat × Nat)} {L : List (Nat × Nat)} {P Q : List (Nat × Nat × Nat)} {ls cs : List (List Nat)} {F G : wq_F}
variable {i0 w0 s0 nw0 ns0 np0 : Nat} {ls0 cs0 : List (List Nat)} {A B : wq_F} {c' : List Nat}

theorem sx_138 {k e p B' d : Nat} (hx : sx T n G0 c0 O e p N B' G) (hk : 1 ≤ k) : wok (dk_R nn k 138 [d] G) (fun r K => r = 0 ∧ sx T n G0 c0 O e p N B' K) := by
  obtain ⟨k, rfl⟩ : ∃ m, k = m + 1 := ⟨k - 1, by omega⟩
  rw [dk_Re_138]
  unfold dk_138
  refine wok_l ?_
  exact wok_f (sx_ne hx (by decide)) (wok_f (sx_ne hx (by decide)) (wok_f (sx_ne hx (by decide)) (wok_f (sx_ne hx (by decide)) (wok_f (sx_ne hx (by decide)) (wok_f (sx_ne hx (by decide)) (wok_r ⟨rfl, hx⟩))))))
theorem sx_45 {k e p B' d v g : Nat} (hx : sx T n G0 c0 O e p N B' G) (hk : 1 ≤ k) (hg1 : 1 ≤ g) : wok (dk_137_45 (dk_R nn k) nn g G d v) (fun _ K => sx T n G0 c0 O e p N B' K) := by
  obtain ⟨g, rfl⟩ : ∃ m, g = m + 1 := ⟨g - 1, by omega⟩
  show wok (dk_137_45b (dk_R nn k) nn (dk_137_45 (dk_R nn k) nn g) G d v) _
  unfold dk_137_45b
  refine wok_i (fun _ => wok_r hx) (fun _ => ?_)
  refine wok_b (sx_138 hx hk) fun r K h => ?_
  dsimp only
  exact wok_t h.1 (wok_r h.2)
theorem pj_k {lv : Nat → Prop} {f m : Nat} {A' B' : wq_F} (h : ka A A' w nw m lv) (g : kb B B' s ns m lv) : pj ls cs lv f cb A B w s nw ns m c A' B' w s nw ns m c [] [] := ⟨⟨Nat.le_refl _, Nat.le_refl _, Nat.le_refl _, Nat.le_refl _, Nat.le_refl _⟩, h, g, ⟨fun j hj => absurd hj (List.not_mem_nil), fun j hj => absurd hj (List.not_mem_nil)⟩, fun _ _ _ _ _ _ _ _ _ _ _ e => e⟩
/-- a link, or none -/
theorem link_ok {D k : Nat} (hM : tk_M T n M) (h : eg T n M G0 c0 O N off voff ph cx cb A B i0 ls0 cs0 w0 s0 nw0 ns0 np0 c t ((8, 0, 0, 0) :: W) L P Q F G i ls cs w s nw ns np c') (ht : tlr cb N A B w0 s0 nw0 ns0 np0 c F G ls cs w s nw ns np c') (h62 : ∀ l, l < N → B 62 l < np0) (hn : 10000 < nn) (hc0 : c0.length ≤ 1400) (hO : O ≤ 20000) (hB : bnd i (w + 2) (s + 1) nw ns np t (hg c + 2) ((8, 0, 0, 0) :: W) L P Q N) (hW : W.length ≤ 20 * t + 6) (htD : t = D) (hD : D ≤ 20) (hE : E_ok nn T n M G0 c0 O (D + 1)) (hT : Tb_ok nn T n M G0 c0 O D) (hk : 20 * (22 - D) + 10 ≤ k) : wok (dk_R nn k 138 [D] G) (fun r K => (∃ i' w' s' nw' ns' np' ls' cs' H c'', r = 1 ∧ (rm_to nn F H ∧ rm_fr F H) ∧ eg T n M G0 c0 O N off voff ph cx cb A B i0 ls0 cs0 w0 s0 nw0 ns0 np0 c t ((8, 0, 0, 0) :: W) L P Q H K i' ls' cs' w' s' nw' ns' np' c'' ∧ tlr cb N A B w0 s0 nw0 ns0 np0 c H K ls' cs' w' s' nw' ns' np' c'' ∧ rts i w s nw ns i' w' s' nw' ns') ∨ (∃ e p, r = 1 ∧ rm_out nn e p F ∧ sx T n G0 c0 O e p N (zz t + 50) K) ∨ (r = 0 ∧ K = G ∧ (rm_to nn F (wq_up F 0 46 W.length) ∧ rm_fr F (wq_up F 0 46 W.length)))) := by
  obtain ⟨k, rfl⟩ : ∃ m, k = m + 1 := ⟨k - 1, by omega⟩
  have h57 : G 57 4 = tk_ty T n (tk_pos T n i) := h.2.1.1.2.1.1
  have lift : ∀ r K, (fun r K => (∃ i' w' s' nw' ns' np' ls' cs' H c'', r = 1 ∧ (rm_to nn F H ∧ rm_fr F H) ∧ eg T n M G0 c0 O N off voff ph cx cb A B i0 ls0 cs0 w0 s0 nw0 ns0 np0 c t ((8, 0, 0, 0) :: W) L P Q H K i' ls' cs' w' s' nw' ns' np' c'' ∧ tlr cb N A B w0 s0 nw0 ns0 np0 c H K ls' cs' w' s' nw' ns' np' c'' ∧ rts i w s nw ns i' w' s' nw' ns') ∨ (∃ e p, r = 1 ∧ rm_out nn e p F ∧ sx T n G0 c0 O e p N (zz t + 50) K)) r K → (fun r K => (∃ i' w' s' nw' ns' np' ls' cs' H c'', r = 1 ∧ (rm_to nn F H ∧ rm_fr F H) ∧ eg T n M G0 c0 O N off voff ph cx cb A B i0 ls0 cs0 w0 s0 nw0 ns0 np0 c t ((8, 0, 0, 0) :: W) L P Q H K i' ls' cs' w' s' nw' ns' np' c'' ∧ tlr cb N A B w0 s0 nw0 ns0 np0 c H K ls' cs' w' s' nw' ns' np' c'' ∧ rts i w s nw ns i' w' s' nw' ns') ∨ (∃ e p, r = 1 ∧ rm_out nn e p F ∧ sx T n G0 c0 O e p N (zz t + 50) K) ∨ (r = 0 ∧ K = G ∧ (rm_to nn F (wq_up F 0 46 W.length) ∧ rm_fr F (wq_up F 0 46 W.length)))) r K := fun r K h => by
    rcases h with z | z
    · exact Or.inl z
    · exact Or.inr (Or.inl z)
  have hB1 := hB
  obtain ⟨m1, m2, m3, m4, m5, m6, m7, m8, m9, m10, m11, m12⟩ := hB1
  have hB2 : bnd i w s nw ns np t (hg c) ((8, 0, 0, 0) :: W) L P Q N := ⟨by omega, by omega, m3, m4, m5, m6, by omega, m8, m9, m10, m11, m12⟩
  have hk1 : 20 * (22 - D) + 9 ≤ k := by omega
  have hk2 : 20 * (22 - (D + 1)) + 20 ≤ k := by omega
  have hp := ry_pop h.1
  have hgo := fun H => ry_go (nn := nn) (H := H) h.1 (by show W.length < 4000; omega)
  rw [dk_Re_138]
  unfold dk_138
  refine wok_l ?_
  have s4 := tk_ty_kind (T := T) (n := n) (p := tk_pos T n i)
  have s51 := tk_ty_sign (T := T) (n := n) (p := tk_pos T n i) (c := 40) (by decide)
  have s53 := tk_ty_sign (T := T) (n := n) (p := tk_pos T n i) (c := 123) (by decide)
  have s55 := tk_ty_sign (T := T) (n := n) (p := tk_pos T n i) (c := 91) (by decide)
  have s58 := tk_ty_sign (T := T) (n := n) (p := tk_pos T n i) (c := 58) (by decide)
  have s60 := tk_ty_sign (T := T) (n := n) (p := tk_pos T n i) (c := 46) (by decide)
  by_cases q1 : tk_k T n i = 3
  · exact wok_t (h57.trans (s4.2.2.1.mpr q1)) (wok_m (link_gv hM h ht h62 hn hc0 hO hB hW htD hD hE hT hk1 (Or.inl q1)) lift)
  refine wok_f (fun z => q1 (s4.2.2.1.mp (h57.symm.trans z))) ?_
  by_cases q2 : tk_k T n i = 5 ∧ tk_V T n (tk_pos T n i) = 40
  · exact wok_t (h57.trans (s51.mpr q2)) (wok_m (link_gv hM h ht h62 hn hc0 hO hB hW htD hD hE hT hk1 (Or.inr ⟨q2.1, Or.inl q2.2⟩)) lift)
  refine wok_f (fun z => q2 (s51.mp (h57.symm.trans z))) ?_
  by_cases q3 : tk_k T n i = 5 ∧ tk_V T n (tk_pos T n i) = 123
  · exact wok_t (h57.trans (s53.mpr q3)) (wok_m (link_gv hM h ht h62 hn hc0 hO hB hW htD hD hE hT hk1 (Or.inr ⟨q3.1, Or.inr q3.2⟩)) lift)
  refine wok_f (fun z => q3 (s53.mp (h57.symm.trans z))) ?_
  by_cases q4 : tk_k T n i = 5 ∧ tk_V T n (tk_pos T n i) = 91
  · exact wok_t (h57.trans (s55.mpr q4)) (wok_m (link_br hM h ht h62 hn hc0 hO hB2 hW htD hD hE hk2 q4) lift)
  refine wok_f (fun z => q4 (s55.mp (h57.symm.trans z))) ?_
  by_cases q5 : tk_k T n i = 5 ∧ tk_V T n (tk_pos T n i) = 58
  · exact wok_t (h57.trans (s58.mpr q5)) (wok_m (link_call hM h ht h62 hn hc0 hO hB hW htD hD hE hT hk1 q5) lift)
  refine wok_f (fun z => q5 (s58.mp (h57.symm.trans z))) ?_
  by_cases q6 : tk_k T n i = 5 ∧ tk_V T n (tk_pos T n i) = 46
  · exact wok_t (h57.trans (s60.mpr q6)) (wok_m (link_dot hM h ht h62 hn hc0 hO hB2 hW htD hD q6) lift)
  refine wok_f (fun z => q6 (s60.mp (h57.symm.trans z))) ?_
  have h33 : dk_32 nn (wq_up F 0 46 W.length) (8, 0, 0, 0).1 (8, 0, 0, 0).2.1 (8, 0, 0, 0).2.2.1 (8, 0, 0, 0).2.2.2 = dk_245 (wq_up F 0 46 W.length) := by
    show dk_32 nn (wq_up F 0 46 W.length) 8 0 0 0 = _
    rw [dk32_8, od_bI]
  have hd := h33.trans (rS hM hp)
  rw [if_neg q6, if_neg q4, if_neg q5, rG hM hp, od_bS] at hd
  dsimp only at hd
  rw [if_ck, if_neg (fun z => by
    rcases z with z | ⟨z1, z2 | z2⟩
    · exact q1 z
    · exact q2 ⟨z1, z2⟩
    · exact q3 ⟨z1, z2⟩)] at hd
  exact wok_r (Or.inr (Or.inr ⟨rfl, rfl, hgo _ (rgo_i hd (by decide) hp.1.1 (rm_fr_up (rm_fr_refl _) (by decide) (by decide)))⟩))
/-- all links that follow -/
theorem ch_loop {D k : Nat} (hM : tk_M T n M) (h62 : ∀ l, l < N → B 62 l < np0) (hn : 10000 < nn) (hc0 : c0.length ≤ 1400) (hO : O ≤ 20000) (hB : bnd i0 w0 s0 nw0 ns0 np0 t (hg c) W L P Q N) (hW : W.length ≤ 20 * t + 6) (htD : t = D) (hD : D ≤ 20) (hE : E_ok nn T n M G0 c0 O (D + 1)) (hT : Tb_ok nn T n M G0 c0 O D) (hk : 20 * (22 - D) + 10 ≤ k) : ∀ (g v i w s nw ns np : Nat) (ls cs : List (List Nat)) (c' : List Nat) (F G : wq_F), 1510 < g + v → v < i → eg T n M G0 c0 O N off voff ph cx cb A B i0 ls0 cs0 w0 s0 nw0 ns0 np0 c t ((8, 0, 0, 0) :: W) L P Q F G i ls cs w s nw ns np c' → tlr cb N A B w0 s0 nw0 ns0 np0 c F G ls cs w s nw ns np c' → rts i0 w0 s0 nw0 ns0 i (w + 4) (s + 2) nw ns →
    wok (dk_137_45 (dk_R nn k) nn g G D v) (fun _ K => (∃ i' w' s' nw' ns' np' ls' cs' H c'', (rm_to nn F H ∧ rm_fr F H) ∧ eg T n M G0 c0 O N off voff ph cx cb A B i0 ls0 cs0 w0 s0 nw0 ns0 np0 c t W L P Q H K i' ls' cs' w' s' nw' ns' np' c'' ∧ tlr cb N A B w0 s0 nw0 ns0 np0 c H K ls' cs' w' s' nw' ns' np' c'' ∧ rts i0 w0 s0 nw0 ns0 i' (w' + 4) (s' + 2) nw' ns') ∨ ∃ e p, rm_out nn e p F ∧ sx T n G0 c0 O e p N (zz t + 50) K) := by
  obtain ⟨m1, m2, m3, m4, m5, m6, m7, m8, m9, m10, m11, m12⟩ := hB
  have hM1 := hM.1
  intro g
  induction g with
  | zero =>
    intro v i w s nw ns np ls cs c' F G x1 x2 h
    have := h.1.1.2.2.1
    omega
  | succ g ih =>
    intro v i w s nw ns np ls cs c' F G x1 x2 h ht rt
    have rt0 := rt
    obtain ⟨u1, u2, u3, u4, u5⟩ := rt
    have hiM := h.1.1.2.2.1
    have hN := h.2.2.1.1.1.1
    have hnp := h.2.2.2.2.2.2
    show wok (dk_137_45b (dk_R nn k) nn (dk_137_45 (dk_R nn k) nn g) G D v) _
    unfold dk_137_45b
    refine wok_f (fun z => absurd ((wd_slt (by decide) (by omega)).mp z) (by omega)) ?_
    refine wok_b (link_ok (k := k) hM h ht h62 hn hc0 hO ⟨by omega, by omega, by omega, by omega, hnp, m6, by omega, by show W.length + 1 ≤ _; omega, m9, m10, m11, m12⟩ hW htD hD hE hT hk) fun r K hK => ?_
    dsimp only
    rcases hK with ⟨i', w', s', nw', ns', np', ls', cs', H, c'', r1, g1, e1, t1, rt1⟩ | ⟨e, p, r1, ho, hx⟩ | ⟨r0, eK, g1⟩
    · refine wok_f (by omega) (wok_l ?_)
      rw [Nat.mod_eq_of_lt (show v + 1 < 4294967296 by omega)]
      obtain ⟨y1, y2, y3, y4, y5⟩ := rt1
      refine wok_m (ih (v + 1) i' w' s' nw' ns' np' ls' cs' c'' H K (by omega) (by omega) e1 t1 ⟨by omega, by omega, by omega, by omega, by omega⟩) fun r K h => ?_
      rcases h with ⟨i2, w2, s2, nw2, ns2, np2, ls2, cs2, H2, c2, g2, e2, t2, rt2⟩ | ⟨e, p, ho, hx⟩
      · exact Or.inl ⟨i2, w2, s2, nw2, ns2, np2, ls2, cs2, H2, c2, ⟨rm_trans g1.1 g2.1, rm_fr_trans g1.2 g2.2⟩, e2, t2, rt2⟩
      · exact Or.inr ⟨e, p, rm_to_out g1.1 g1.2 ho, hx⟩
    · refine wok_f (by omega) (wok_l ?_)
      exact wok_m (sx_45 hx (by omega) (by omega)) fun r K h => Or.inr ⟨e, p, ho, h⟩
    · rw [eK]
      have h0 : ∀ d j, ¬ d = 0 → wq_up F 0 46 W.length d j = F d j := fun d j q => wq_up_cell q
      have hr : ∀ j, ¬ j = 46 → wq_up F 0 46 W.length 0 j = F 0 j := fun j q => wq_up_at q
      exact wok_t r0 (wok_r (Or.inl ⟨i, w, s, nw, ns, np, ls, cs, _, c', g1, eg_0 h (ry_pop h.1) h0 ⟨hr 50 (by decide), hr 53 (by decide)⟩ h62, tlr_0 ht h0 ⟨hr 61 (by decide), hr 62 (by decide), hr 63 (by decide)⟩ h62 hN, rt0⟩))
/-- a chain -/
theorem ch_ok {D k : Nat} (hM : tk_M T n M) (hE : E_ok nn T n M G0 c0 O (D + 1)) (hT : Tb_ok nn T n M G0 c0 O D) (hk : 20 * (22 - D) + 11 ≤ k) (htD : t = D) (hD : D ≤ 20) (hn : 10000 < nn) (hc0 : c0.length ≤ 1400) (hO : O ≤ 20000) (hr : ry T n M i ls t w nw np ((7, 0, 0, 0) :: W) L P F) (hc : cy T n G0 c0 O i cs s ns np N Q G) (hb : bz N off voff ph cx c np F ls G cs) (hB : bnd i w s nw ns np t (hg c) W L P Q N) (hW : W.length ≤ 20 * t + 6) : wok (dk_R nn k 137 [D] G) (fun _ K => (∃ i' w' s' nw' ns' np' ls' cs' H c'', (rm_to nn F H ∧ rm_fr F H) ∧ eg T n M G0 c0 O N off voff ph cx cb F G i ls cs w s nw ns np c t W L P Q H K i' ls' cs' w' s' nw' ns' np' c'' ∧ tlr cb N F G w s nw ns np c H K ls' cs' w' s' nw' ns' np' c'' ∧ rts i w s nw ns i' (w' + 4) (s' + 2) nw' ns') ∨ ∃ e p, rm_out nn e p F ∧ sx T n G0 c0 O e p N (zz t + 50) K) := by
  have hB0 := hB
  obtain ⟨m1, m2, m3, m4, m5, m6, m7, m8, m9, m10, m11, m12⟩ := hB0
  have hM1 := hM.1
  have hiM := hr.1.2.2.1
  have h62 := hb.2.2.2.2.2.1
  have hN := hb.1.1.1
  have hz : 6310 ≤ zz t ∧ zz t < 9800 ∧ zz (t + 1) + 110 ≤ zz t := by unfold zz; omega
  have h57 : G 57 4 = tk_ty T n (tk_pos T n i) := hc.1.2.1.1
  obtain ⟨k, rfl⟩ : ∃ m, k = m + 1 := ⟨k - 1, by omega⟩
  have hgo := fun H => ry_go (nn := nn) (H := H) hr (by show W.length < 4000; omega)
  have hba := fun k p => ry_ba (nn := nn) (k := k) (p := p) hr (by show W.length < 4000; omega)
  have h33 : dk_32 nn (wq_up F 0 46 W.length) (7, 0, 0, 0).1 (7, 0, 0, 0).2.1 (7, 0, 0, 0).2.2.1 (7, 0, 0, 0).2.2.2 = dk_243 nn (wq_up F 0 46 W.length) := by
    show dk_32 nn (wq_up F 0 46 W.length) 7 0 0 0 = _
    rw [dk32_7, od_bI]
  have h1 := ry_pop hr
  have b1 : bz N off voff ph cx c np (wq_up F 0 46 W.length) ls G cs := bz_fu hb (by omega)
  have f1 : rm_fr F (wq_up F 0 46 W.length) := rm_fr_up (rm_fr_refl _) (by decide) (by decide)
  have e0 : eg T n M G0 c0 O N off voff ph cx cb F G i ls cs w s nw ns np c t W L P Q (wq_up F 0 46 W.length) G i ls cs w s nw ns np c := eg_n h1 hc b1 (fun d j q => wq_up_cell (by omega)) (qf_refl _) (st_pre_refl _) (Nat.le_refl _) m5
  generalize wq_up F 0 46 W.length = F1 at *
  generalize dk_32 nn F1 (7, 0, 0, 0).1 (7, 0, 0, 0).2.1 (7, 0, 0, 0).2.2.1 (7, 0, 0, 0).2.2.2 = mm at *
  have hw1 : F1 0 41 = w := h1.2.1.2.1
  have h46 : F1 0 46 = W.length := h1.2.2.1.1
  have hkd := pm_kind h1.1
  have hpb := pm_b hM h1.1
  -- stopped
  have tl : ∀ (e p B' : Nat) (K : wq_F), sx T n G0 c0 O e p N B' K → B' ≤ zz t + 50 → rm_out nn e p F → wok (dk_137_45 (dk_R nn k) nn nn K D 0) (fun _ K => (∃ i' w' s' nw' ns' np' ls' cs' H c'', (rm_to nn F H ∧ rm_fr F H) ∧ eg T n M G0 c0 O N off voff ph cx cb F G i ls cs w s nw ns np c t W L P Q H K i' ls' cs' w' s' nw' ns' np' c'' ∧ tlr cb N F G w s nw ns np c H K ls' cs' w' s' nw' ns' np' c'' ∧ rts i w s nw ns i' (w' + 4) (s' + 2) nw' ns') ∨ ∃ e p, rm_out nn e p F ∧ sx T n G0 c0 O e p N (zz t + 50) K) := fun e p B' K hx hB' ho => wok_m (sx_45 hx (by omega) (by omega)) fun r K h => Or.inr ⟨e, p, ho, sx_le h hB'⟩
  -- the loop
  have lp : ∀ (i' w' s' nw' ns' np' : Nat) (ls' cs' : List (List Nat)) (c'' : List Nat) (H K : wq_F), (rm_to nn F H ∧ rm_fr F H) → eg T n M G0 c0 O N off voff ph cx cb F G i ls cs w s nw ns np c t ((8, 0, 0, 0) :: W) L P Q H K i' ls' cs' w' s' nw' ns' np' c'' → tlr cb N F G w s nw ns np c H K ls' cs' w' s' nw' ns' np' c'' → rts i w s nw ns i' (w' + 4) (s' + 2) nw' ns' → wok (dk_137_45 (dk_R nn k) nn nn K D 0) (fun _ K => (∃ i' w' s' nw' ns' np' ls' cs' H c'', (rm_to nn F H ∧ rm_fr F H) ∧ eg T n M G0 c0 O N off voff ph cx cb F G i ls cs w s nw ns np c t W L P Q H K i' ls' cs' w' s' nw' ns' np' c'' ∧ tlr cb N F G w s nw ns np c H K ls' cs' w' s' nw' ns' np' c'' ∧ rts i w s nw ns i' (w' + 4) (s' + 2) nw' ns') ∨ ∃ e p, rm_out nn e p F ∧ sx T n G0 c0 O e p N (zz t + 50) K) := fun i' w' s' nw' ns' np' ls' cs' c'' H K g1 e1 t1 rt => by
    have rt0 := rt
    obtain ⟨u1, u2, u3, u4, u5⟩ := rt
    refine wok_m (ch_loop hM h62 hn hc0 hO hB hW htD hD hE hT (by omega) nn 0 i' w' s' nw' ns' np' ls' cs' c'' H K (by omega) (by omega) e1 t1 rt0) fun r K h => ?_
    rcases h with ⟨i2, w2, s2, nw2, ns2, np2, ls2, cs2, H2, c2, g2, e2, t2, rt2⟩ | ⟨e, p, ho, hx⟩
    · exact Or.inl ⟨i2, w2, s2, nw2, ns2, np2, ls2, cs2, H2, c2, ⟨rm_trans g1.1 g2.1, rm_fr_trans g1.2 g2.2⟩, e2, t2, rt2⟩
    · exact Or.inr ⟨e, p, rm_to_out g1.1 g1.2 ho, hx⟩
  rw [dk_Re_137]
  unfold dk_137
  by_cases q1 : tk_k T n i = 1
  · -- a name
    have t57 : G 57 4 = 2 := h57.trans (tk_ty_kind.1.mpr q1)
    refine wok_f (by omega) ?_
    have hC := rC_name (nn := nn) hM h1 q1
    unfold dk_133
    rcases name_both (nn := nn) hM h1 hc b1 q1 hn (by omega) (by omega) m5 (by omega) hc0 with ⟨H, A, d1, d2, d3, d4, d5, d6, d7, d8, d9, d10, d11, d12, d13⟩ | ⟨H, A, d1, d2, d3, d4, d5, d6, d7⟩
    · have hw46 : H 0 46 = W.length := d3.2.2.1.1
      rw [d1, od_bS] at hC
      dsimp only at hC
      rw [dkS_31 (by omega), od_bS] at hC
      dsimp only at hC
      have hr4 : ry T n M i ls t w nw np ((8, 0, 0, 0) :: W) L P (pm_la H 8 0 0 0) := ry_la d3
      have hf4 : rm_fr F (pm_la H 8 0 0 0) := rm_fr_la (rm_fr_trans f1 d6)
      have x4 : ∀ d j, ¬ d = 0 → 12 ≤ d ∧ d ≤ 24 → pm_la H 8 0 0 0 d j = H d j := fun d j q _ => pm_la_ne (by omega) (by omega)
      have y4 : pm_la H 8 0 0 0 0 61 = H 0 61 ∧ pm_la H 8 0 0 0 0 62 = H 0 62 := ⟨pm_la_ne (by omega) (by omega), pm_la_ne (by omega) (by omega)⟩
      have b4 := bz_la (k := 8) (x := 0) (y := 0) (z := 0) d5
      rw [if_pos hr4.1.1] at hC
      generalize pm_la H 8 0 0 0 = F4 at *
      have c5 : cy T n G0 c0 O i cs s ns np N Q (wq_up (wq_up A 56 7 (A 59 10)) 56 8 (A 59 11)) := cy_up (cy_up d4 (by unfold cy_n; omega)) (by unfold cy_n; omega)
      have b5 : bz N off voff ph cx c np F4 ls (wq_up (wq_up A 56 7 (A 59 10)) 56 8 (A 59 11)) cs := bz_gu (bz_gu b4 (by omega)) (by omega)
      have st : wok (if (G 57 4) = 2 then (dk_169 nn G (ev_oL2i (G 57 8))).bind fun y2 => if y2.1 = 0 then (dk_109 y2.2 3).bind fun y17 => some (0, y17.2) else od_up y2.2 56 7 (y2.2 59 10) fun F7 => od_up F7 56 8 (F7 59 11) fun F10 => (dk_77 nn F10).bind fun y13 => some (0, y13.2) else (dk_109 G 2).bind fun y21 => some (0, y21.2)) (fun _ K => (∃ ms, i < M ∧ dk_212 F4 = some (1, wq_up F4 0 25 (i + 1)) ∧ cy T n G0 c0 O (i + 1) ms s ns np N Q K ∧ bz N off voff ph cx c np F4 ls K ms ∧ px_fr (wq_up (wq_up A 56 7 (A 59 10)) 56 8 (A 59 11)) K ∧ st_pre cs ms) ∨ (dk_212 F4 = some (0, pm_f F4 3 (tk_pos T n i)) ∧ sx T n G0 c0 O 3 (tk_pos T n i) N 6200 K)) := by
        refine wok_t t57 ?_
        rw [d2, od_bS]
        dsimp only
        refine wok_f (by decide) (wok_u ?_)
        rw [show wq_up A 56 7 (A 59 10) 59 11 = A 59 11 from wq_up_cell (by decide)]
        refine wok_u (wok_b (bt_77 (B := 6200) hM hr4 c5 b5 (by omega) (by omega) (by omega) hc0 hO (by omega) (by omega) m5 (by omega)) fun r K h => wok_r ?_)
        rcases h with ⟨a1, a2, ms, a3, a4, a5, a6⟩ | z
        · exact Or.inl ⟨ms, a1, a2, a3, a4, a5, a6⟩
        · exact Or.inr z
      refine wok_b st fun r K hK => ?_
      dsimp only
      rcases hK with ⟨ms, iM, e2, c6, b6, f6, p6⟩ | ⟨e2, hx⟩
      · rw [e2, od_bS] at hC
        dsimp only at hC
        rw [if_neg (by decide)] at hC
        have hr7 := ry_nx hr4 iM
        have g7 := hgo _ (rgo_i (h33.trans hC) (by decide) hr7.1.1 (rm_fr_up hf4 (by decide) (by decide)))
        have z7 : ∀ d j, ¬ (d = 0 ∧ j = 25) → wq_up F4 0 25 (i + 1) d j = F4 d j := fun d j q => wq_up_ne q
        have b7 : bz N off voff ph cx c np (wq_up F4 0 25 (i + 1)) ls K ms := bz_fu b6 (by omega)
        generalize wq_up F4 0 25 (i + 1) = F7 at *
        have k7 : K 56 7 = A 59 10 := (f6 56 7 (by decide) (by decide) (by decide)).trans (by rw [wq_up_at (by decide), wq_up_same])
        have k8 : K 56 8 = A 59 11 := (f6 56 8 (by decide) (by decide) (by decide)).trans (wq_up_same _ _ _ _)
        have r61 : F7 0 61 = H 0 61 := (z7 0 61 (by decide)).trans y4.1
        have r62 : F7 0 62 = H 0 62 := (z7 0 62 (by decide)).trans y4.2
        have r15 : F7 15 (G 62 (N - 1)) = H 15 (G 62 (N - 1)) := (z7 15 _ (by omega)).trans (x4 15 _ (by decide) (by decide))
        have kA : ∀ d j, (17 ≤ d ∧ d ≤ 23) ∨ (12 ≤ d ∧ d ≤ 15 ∧ j < s) ∨ (d = 16 ∧ j < ns) ∨ d = 62 ∨ d = 65 ∨ d = 61 ∨ d = 60 → K d j = A d j := fun d j q => (f6 d j (by omega) (by omega) (by omega)).trans (by rw [wq_up_cell (by omega), wq_up_cell (by omega)])
        have h62' : ∀ g, np ≤ g → ¬ lvl N G g := fun g hg ⟨l, l1, l2⟩ => by have := h62 l l1; omega
        have pp := pj_t (f := G 62 (N - 1)) (cb := cb) (c := c) (pj_k (ls := ls) (cs := cs) d8 d9) (pj_n (ls := ls) (cs := ms) (fun d j q => (z7 d j (by omega)).trans (x4 d j (by omega) (by omega))) (fun d j q => kA d j (by omega))) (st_pre_refl _) p6 h62' (h62 (N - 1) (by omega))
        have e7 : eg T n M G0 c0 O N off voff ph cx cb F1 G i ls cs w s nw ns np c t ((8, 0, 0, 0) :: W) L P Q F7 K (i + 1) ls ms w s nw ns np c := ⟨hr7, c6, b7, pp, ⟨st_sf_refl _, p6, ⟨fun l hl => ⟨(kA 62 l (by omega)).trans (d10.1 l hl).1, (kA 65 l (by omega)).trans (d10.1 l hl).2⟩, fun l hl e6 h6 => (kA e6 l (by omega)).trans (d10.2 l hl e6 h6)⟩⟩, Nat.le_succ _, m5⟩
        refine lp (i + 1) w s nw ns np ls ms c F7 K g7 (eg_t e0 e7 h62) ?_ ⟨by omega, by omega, by omega, by omega, by omega⟩
        unfold tlr
        rw [r61, r62, k7, k8, r15]
        rcases d7 with ⟨z1, z2, z3⟩ | ⟨z1, z2, z3, z4⟩ | ⟨z1, z2, z3, z4, z5⟩
        · exact Or.inl ⟨z1, z2, rfl, z3⟩
        · exact Or.inr (Or.inl ⟨z1, z2, rfl, z3, z4⟩)
        · exact Or.inr (Or.inr (Or.inl ⟨z1, z2, rfl, z3, Nat.lt_of_lt_of_le z4 p6.1, by rw [p6.2 _ z4]; exact z5⟩))
      · rw [e2, od_bS] at hC
        exact tl _ _ _ _ hx (by omega) (hba _ _ (rba_f (h33.trans (hC.trans (if_pos rfl))) hf4 (by rw [hr4.2.1.2.1]; omega)))
    · have hw46 : H 0 46 = W.length := (d6 46 (by decide)).trans h46
      rw [d1, od_bS] at hC
      dsimp only at hC
      rw [dkS_31 (by omega), od_bS] at hC
      dsimp only at hC
      have y0 : ∀ j, ¬ j = 46 → pm_la H 8 0 0 0 0 j = H 0 j := fun j hj => pm_la_ne (by omega) (by omega)
      rw [if_neg (by rw [y0 4 (by decide), d3]; decide)] at hC
      have ho := hba 3 (tk_pos T n i) (rba_i (h33.trans hC) (Or.inl rfl) ((y0 4 (by decide)).trans d3) ((y0 5 (by decide)).trans d4) (rm_fr_la (rm_fr_trans f1 d5)) (by
        rw [y0 41 (by decide), d6 41 (by decide), hw1]
        omega))
      have st : wok (if (G 57 4) = 2 then (dk_169 nn G (ev_oL2i (G 57 8))).bind fun y2 => if y2.1 = 0 then (dk_109 y2.2 3).bind fun y17 => some (0, y17.2) else od_up y2.2 56 7 (y2.2 59 10) fun F7 => od_up F7 56 8 (F7 59 11) fun F10 => (dk_77 nn F10).bind fun y13 => some (0, y13.2) else (dk_109 G 2).bind fun y21 => some (0, y21.2)) (fun _ K => sx T n G0 c0 O 3 (tk_pos T n i) N 6200 K) := by
        refine wok_t t57 ?_
        rw [d2, od_bS]
        dsimp only
        exact wok_t rfl (wok_b d7 fun r K h => wok_r h)
      refine wok_b st fun r K hK => ?_
      dsimp only
      exact tl _ _ _ _ hK (by omega) ho
  have hC : dk_243 nn F1 = (dk_36 F1 40).bind fun y3 => if y3.1 = 0 then dk_211 y3.2 else (dk_31 y3.2 9 0 0 0).bind fun y8 => (dk_31 y8.2 3 0 0 0).bind fun y12 => dk_212 y12.2 := by
    unfold dk_243
    rw [od_g1 hpb, if_neg (fun z => q1 (hkd.symm.trans z))]
    simp only [od_bI]
  rw [pm_isSign hM h1.1 (by decide), od_bS] at hC
  dsimp only at hC
  rw [if_ck] at hC
  have s51 := tk_ty_sign (T := T) (n := n) (p := tk_pos T n i) (c := 40) (by decide)
  by_cases q2 : tk_k T n i = 5 ∧ tk_V T n (tk_pos T n i) = 40
  · -- ( E )
    rw [if_pos q2, dkS_31 (by omega), od_bS] at hC
    dsimp only at hC
    rw [dkS_31 (by rw [pm_la_at.2.2.2.2]; omega), od_bS] at hC
    dsimp only at hC
    refine wok_t (h57.trans (s51.mpr q2)) ?_
    have hr2 : ry T n M i ls t w nw np ((3, 0, 0, 0) :: (9, 0, 0, 0) :: W) L P (pm_la (pm_la F1 9 0 0 0) 3 0 0 0) := ry_la (ry_la h1)
    have b2 := bz_la (k := 3) (x := 0) (y := 0) (z := 0) (bz_la (k := 9) (x := 0) (y := 0) (z := 0) b1)
    have f2 : rm_fr F (pm_la (pm_la F1 9 0 0 0) 3 0 0 0) := rm_fr_la (rm_fr_la f1)
    have x2 : ∀ d j, 12 ≤ d ∧ d ≤ 24 → pm_la (pm_la F1 9 0 0 0) 3 0 0 0 d j = F1 d j := fun d j q => by rw [pm_la_ne (by omega) (by omega), pm_la_ne (by omega) (by omega)]
    generalize pm_la (pm_la F1 9 0 0 0) 3 0 0 0 = F2 at *
    have tl2 : ∀ (e p B' : Nat) (K : wq_F), sx T n G0 c0 O e p N B' K → B' ≤ zz t + 50 → rm_out nn e p F → wok ((dk_R nn k 148 [0, (D + 1) % 4294967296] K).bind fun y10 => (dk_110 nn y10.2 52).bind fun y14 => od_up y14.2 56 7 4294967295 fun F18 => dk_137_45 (dk_R nn k) nn nn F18 D 0) (fun _ K => (∃ i' w' s' nw' ns' np' ls' cs' H c'', (rm_to nn F H ∧ rm_fr F H) ∧ eg T n M G0 c0 O N off voff ph cx cb F G i ls cs w s nw ns np c t W L P Q H K i' ls' cs' w' s' nw' ns' np' c'' ∧ tlr cb N F G w s nw ns np c H K ls' cs' w' s' nw' ns' np' c'' ∧ rts i w s nw ns i' (w' + 4) (s' + 2) nw' ns') ∨ ∃ e p, rm_out nn e p F ∧ sx T n G0 c0 O e p N (zz t + 50) K) := fun e p B' K hx hB' ho => by
      refine wok_b (sx_148 hx (by omega)) fun r K h => ?_
      refine wok_b (sx_110 h.2 (by decide)) fun r K h => ?_
      exact wok_u (tl _ _ _ _ (sx_up h (by omega)) hB' ho)
    refine wok_b (bt_77 (B := 6200) hM hr2 hc b2 (by omega) (by omega) (by omega) hc0 hO (by omega) (by omega) m5 (by omega)) fun r K hK => ?_
    dsimp only
    rcases hK with ⟨iM, e2, ms, c3, b3, f3, p3⟩ | ⟨e2, hx⟩
    · have hr3 := ry_nx hr2 iM
      have g3 := hgo _ (rgo_i (h33.trans (hC.trans e2)) (by decide) hr3.1.1 (rm_fr_up f2 (by decide) (by decide)))
      have b3' : bz N off voff ph cx c np (wq_up F2 0 25 (i + 1)) ls K ms := bz_fu b3 (by omega)
      have eg3 := eg_t e0 (eg_n (cb := cb) hr3 c3 b3' (fun d j q => (wq_up_cell (by omega)).trans (x2 d j (by omega))) (qf_fr f3) p3 (Nat.le_succ _) m5) h62
      generalize wq_up F2 0 25 (i + 1) = F3 at *
      rw [Nat.mod_eq_of_lt (show D + 1 < 4294967296 by omega)]
      refine wok_b (hE k 0 0 (i + 1) t w s nw ns np N off voff ph cx c cb ((9, 0, 0, 0) :: W) L P Q ls ms F3 K (by omega) (Or.inl ⟨rfl, by decide⟩) (by omega) hr3 c3 b3' ⟨by omega, by omega, by omega, by omega, m5, m6, by omega, by show W.length + 1 ≤ _; omega, m9, m10, m11, m12⟩) fun r4 K4 h4 => ?_
      dsimp only
      rcases h4 with ⟨i4, w4, s4, nw4, ns4, np4, ls4, cs4, F4, g4, eg4, ⟨v1, v2, v3, v4, v5⟩, _⟩ | ⟨e, p, ho, hx⟩
      · have hi4 := eg4.1.1.2.2.1
        have hnp4 := eg4.2.2.2.2.2.2
        have ege := eg_t eg3 eg4 h62
        have hg4 := fun H => ry_go (nn := nn) (H := H) eg4.1 (by show W.length < 4000; omega)
        have hb4 := fun k p => ry_ba (nn := nn) (k := k) (p := p) eg4.1 (by show W.length < 4000; omega)
        have hp := ry_pop eg4.1
        have hr5 : ry T n M i4 ls4 t w4 nw4 np4 ((8, 0, 0, 0) :: W) L P (pm_la (wq_up (wq_up F4 0 46 W.length) 0 61 5) 8 0 0 0) := ry_la (ry_up hp (by unfold ry_n; omega))
        have b5 := bz_la (k := 8) (x := 0) (y := 0) (z := 0) (bz_fu (d := 0) (j := 61) (v := 5) (bz_fu (d := 0) (j := 46) (v := W.length) eg4.2.2.1 (by omega)) (by omega))
        have ff5 : rm_fr F4 (pm_la (wq_up (wq_up F4 0 46 W.length) 0 61 5) 8 0 0 0) := rm_fr_la (rm_fr_up (rm_fr_up (rm_fr_refl _) (by decide) (by decide)) (by decide) (by decide))
        have x5 : ∀ d j, 12 ≤ d ∧ d ≤ 24 → pm_la (wq_up (wq_up F4 0 46 W.length) 0 61 5) 8 0 0 0 d j = F4 d j := fun d j q => by
          rw [pm_la_ne (by omega) (by omega), wq_up_cell (by omega), wq_up_cell (by omega)]
        have r5 : pm_la (wq_up (wq_up F4 0 46 W.length) 0 61 5) 8 0 0 0 0 61 = 5 := by rw [pm_la_ne (by omega) (by omega), wq_up_same]
        have h34 : dk_32 nn (wq_up F4 0 46 W.length) (9, 0, 0, 0).1 (9, 0, 0, 0).2.1 (9, 0, 0, 0).2.2.1 (9, 0, 0, 0).2.2.2 = dk_213 (pm_la (wq_up (wq_up F4 0 46 W.length) 0 61 5) 8 0 0 0) 41 := by
          show dk_32 nn (wq_up F4 0 46 W.length) 9 0 0 0 = _
          rw [dk32_9, od_bI]
          unfold dk_273
          rw [od_upS, dkS_31 (by rw [wq_up_at (by decide), hp.2.2.1.1]; omega), od_bS, od_bI]
        generalize pm_la (wq_up (wq_up F4 0 46 W.length) 0 61 5) 8 0 0 0 = F5 at *
        refine wok_b (bt_sg (x := 41) (B := 6200) hM hr5 eg4.2.1 b5 (by decide) (by decide) (by omega) hc0 hO (by omega) (by omega) hnp4 (by omega)) fun r5' K5 h5 => ?_
        dsimp only
        refine wok_u ?_
        rcases h5 with ⟨iM5, e5, ms5, c5, b5', f5, p5⟩ | ⟨e, e5, hx⟩
        · have hr6 := ry_nx hr5 iM5
          have b6 : bz N off voff ph cx (0 :: c) np4 (wq_up F5 0 25 (i4 + 1)) ls4 K5 ms5 := bz_fu b5' (by omega)
          have g6 := hg4 _ (rgo_i (h34.trans e5) (by decide) hr6.1.1 (rm_fr_up ff5 (by decide) (by decide)))
          have c7 := cy_up (c := 56) (j := 7) (v := 4294967295) c5 (by unfold cy_n; omega)
          have b7 := bz_gu (d := 56) (j := 7) (v := 4294967295) b6 (by omega)
          refine lp (i4 + 1) w4 s4 nw4 ns4 np4 ls4 ms5 (0 :: c) _ _ ⟨rm_trans g3.1 (rm_trans g4.1 g6.1), rm_fr_trans g3.2 (rm_fr_trans g4.2 g6.2)⟩ (eg_t ege (eg_n (cb := cb) hr6 c7 b7 (fun d j q => (wq_up_cell (by omega)).trans (x5 d j (by omega))) (fun d j q => (wq_up_cell (by omega)).trans (qf_fr (s := s4) (ns := ns4) f5 d j q)) p5 (Nat.le_succ _) hnp4) h62) (Or.inr (Or.inr (Or.inr (Or.inr (Or.inr ⟨?_, wq_up_same _ _ _ _, rfl⟩))))) ⟨by omega, by omega, by omega, by omega, by omega⟩
          rw [wq_up_at (by decide)]
          exact r5
        · exact tl _ _ _ _ (sx_up hx (by omega)) (by omega) (rm_to_out g3.1 g3.2 (rm_to_out g4.1 g4.2 (hb4 _ _ (rba_f (h34.trans e5) ff5 (by rw [hr5.2.1.2.1]; omega)))))
      · refine wok_b (sx_110 hx (by decide)) fun r K h => ?_
        exact wok_u (tl _ _ _ _ (sx_up h (by omega)) (by rw [← htD]; omega) (rm_to_out g3.1 g3.2 ho))
    · exact tl2 _ _ _ _ hx (by omega) (hba _ _ (rba_f (h33.trans (hC.trans e2)) f2 (by rw [hr2.2.1.2.1]; omega)))
  · -- neither
    rw [if_neg q2, pm_wrong hM h1.1] at hC
    refine wok_f (fun z => q2 (s51.mp (h57.symm.trans z))) ?_
    unfold dk_133
    have ho := hba _ _ (rba_f (h33.trans hC) f1 (by rw [hw1]; omega))
    have st : wok (if (G 57 4) = 2 then (dk_169 nn G (ev_oL2i (G 57 8))).bind fun y2 => if y2.1 = 0 then (dk_109 y2.2 3).bind fun y17 => some (0, y17.2) else od_up y2.2 56 7 (y2.2 59 10) fun F7 => od_up F7 56 8 (F7 59 11) fun F10 => (dk_77 nn F10).bind fun y13 => some (0, y13.2) else (dk_109 G 2).bind fun y21 => some (0, y21.2)) (fun _ K => sx T n G0 c0 O (tk_wr T n i) (tk_pos T n i) N 6200 K) := by
      refine wok_f (fun z => q1 (tk_ty_kind.1.mp (h57.symm.trans z))) ?_
      exact wok_b (bt_wr (B := 6200) hM h1 hc b1 (by omega) (by omega) m5 (by omega)).2 fun r K h => wok_r h
    refine wok_b st fun r K hK => ?_
    dsimp only
    exact tl _ _ _ _ hK (by omega) ho
end
