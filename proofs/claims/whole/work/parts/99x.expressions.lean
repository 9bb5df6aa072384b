/-! ===== 99x: the row of operators; an expression (wip/whole2/law99x.py) ===== -/
/-- an operand at depth D that no operator stands before -/
def P_ok (nn : Nat) (T : Nat → Nat) (n M : Nat) (G0 : wq_F) (c0 : List (List Nat)) (O D : Nat) : Prop := ∀ (k i t w s nw ns np N : Nat) (off voff ph : Nat → Nat) (cx : Nat → List Nat) (c cb : List Nat) (W : List (Nat × Nat × Nat × Nat)) (L : List (Nat × Nat)) (P Q : List (Nat × Nat × Nat)) (ls cs : List (List Nat)) (F G : wq_F),
  20 * (22 - D) + 15 ≤ k → t = D → ¬ tb_ex (tk_ty T n (tk_pos T n i)) = 0 → tb_un (tk_ty T n (tk_pos T n i)) = 4294967295 → ry T n M i ls t w nw np W L P F → cy T n G0 c0 O i cs s ns np N Q G → bz N off voff ph cx c np F ls G cs → bnd i w s nw ns np t (hg c) W L P Q N → W.length ≤ 20 * t + 4 ∧ N ≤ t →
  wok (dk_R nn k 150 [D] G) (fun r K => O_ok nn T n M G0 c0 O N off voff ph cx cb F G i ls cs w s nw ns np c t W L P Q (dk_238 F) (zz D + 60) r K)
section
variable {nn : Nat} {T : Nat → Nat} {n M O : Nat} {G0 : wq_F} {c0 : List (List Nat)} {i t w s nw ns np N : Nat} {off voff ph : Nat → Nat} {cx : Nat → List Nat} {c cb : List Nat} {W : List (Nat × Nat × Nat × Nat)} {L : List (Nat × Nat)} {P Q : List (Nat × Nat × Nat)} {ls cs : List (List Nat)} {F G : wq_F}

/-- the loop where the class is stopped -/
theorem sx_86 {R : dk_Rt} {g e p B l d r v : Nat} (h : sx T n G0 c0 O e p N B G) (hg : 1 ≤ g) (hl : l < 100) : wok (dk_148_86 R nn g G l d r v) (fun r' K => r' = r ∧ sx T n G0 c0 O e p N B K) := by
  obtain ⟨g, rfl⟩ : ∃ m, g = m + 1 := ⟨g - 1, by omega⟩
  show wok (dk_148_86b R nn (dk_148_86 R nn g) G l d r v) _
  unfold dk_148_86b
  refine wok_i (fun _ => wok_r ⟨rfl, h⟩) (fun _ => ?_)
  refine wok_b (sx_145 h) fun r' K h => ?_
  dsimp only
  refine wok_f (fun z => ?_) (wok_r ⟨rfl, h.2⟩)
  rw [h.1] at z
  exact absurd ((wd_slt (by omega) (by decide)).mp z) (by omega)
/-- only its own cell changed -/
theorem eg_0 {A B H K H' : wq_F} {i' w' s' nw' ns' np' t' : Nat} {ls' cs' : List (List Nat)} {c' : List Nat} {W' : List (Nat × Nat × Nat × Nat)} {L' : List (Nat × Nat)} {P' : List (Nat × Nat × Nat)} (h : eg T n M G0 c0 O N off voff ph cx cb A B i ls cs w s nw ns np c t W L P Q H K i' ls' cs' w' s' nw' ns' np' c') (hr : ry T n M i' ls' t' w' nw' np' W' L' P' H') (h0 : ∀ d j, ¬ d = 0 → H' d j = H d j) (h5 : H' 0 50 = H 0 50 ∧ H' 0 53 = H 0 53) (h62 : ∀ l, l < N → B 62 l < np) : eg T n M G0 c0 O N off voff ph cx cb A B i ls cs w s nw ns np c t' W' L' P' Q H' K i' ls' cs' w' s' nw' ns' np' c' := eg_t h (eg_n hr h.2.1 (bz_F h.2.2.1 ⟨fun c hc => funext fun j => h0 c j (by omega), h5.1, h5.2⟩) (fun d j q => h0 d j (by omega)) (qf_refl _) (st_pre_refl _) (Nat.le_refl _) h.2.2.2.2.2.2) h62
theorem opn_0 {A B H K H' : wq_F} {w' s' nw' ns' np' : Nat} {ls' cs' : List (List Nat)} (h : opn cb N A B w s nw ns np c H K ls' cs' w' s' nw' ns' np') (h0 : ∀ d j, ¬ d = 0 → H' d j = H d j) (h64 : H' 0 64 = H 0 64) (hN : 1 ≤ N) (h62 : ∀ l, l < N → B 62 l < np) : opn cb N A B w s nw ns np c H' K ls' cs' w' s' nw' ns' np' := by
  obtain ⟨a1, a2, a3, a4⟩ := h
  refine ⟨by rw [h64]; exact a1, a2, a3, pj_t a4 (pj_n (fun d j q => ?_) (fun d j q => rfl)) (st_pre_refl _) (st_pre_refl _) (fun g hg ⟨l, l1, l2⟩ => by have := h62 l l1; omega) (h62 (N - 1) (by omega))⟩
  by_cases z : d = 21 ∧ j = w' - 1
  · rw [z.1, z.2, wq_up_same, wq_up_same]
  · rw [wq_up_ne z, wq_up_ne z]
    exact h0 d j (by omega)
/-- the row of operators -/
theorem ops_loop {D k lc lr : Nat} (hM : tk_M T n M) (hE : E_ok nn T n M G0 c0 O (D + 1)) (hk : 20 * (22 - (D + 1)) + 20 ≤ k) (hD : D ≤ 20) (hlim : lim lc lr) (hn : 10000 < nn) (hc0 : c0.length ≤ 1400) (hO : O ≤ 20000) : ∀ (g i w s nw ns np v r : Nat) (ls cs : List (List Nat)) (F G : wq_F), ry T n M i ls D w nw np ((4, lr, 0, 0) :: W) L P F → cy T n G0 c0 O i cs s ns np N Q G → bz N off voff ph cx (0 :: c) np F ls G cs → bnd i w s nw ns np D (hg c) ((6, 0, 0, 0) :: (4, 0, 0, 0) :: W) L P Q N → v ≤ i → 1501 < g + v →
    wok (dk_148_86 (dk_R nn (k + 1)) nn g G lc D r v) (fun r' K => (r' = r ∧ K = G ∧ (rm_to nn F (wq_up F 0 46 W.length) ∧ rm_fr F (wq_up F 0 46 W.length))) ∨ (∃ i' w' s' nw' ns' np' ls' cs' H, r' = 0 ∧ (rm_to nn F H ∧ rm_fr F H) ∧ eg T n M G0 c0 O N off voff ph cx cb F G i ls cs w s nw ns np (0 :: c) D W L P Q H K i' ls' cs' w' s' nw' ns' np' (0 :: c) ∧ rts i w s nw ns i' w' s' nw' ns' ∧ H 0 64 = 4294967295) ∨ ∃ e p, r' = 0 ∧ rm_out nn e p F ∧ sx T n G0 c0 O e p N (zz D) K) := by
  intro g
  induction g with
  | zero =>
    intro i w s nw ns np v r ls cs F G hr _ _ _ hv hg
    have := hr.1.2.2.1
    have := hM.1
    omega
  | succ g ih =>
    intro i w s nw ns np v r ls cs F G hr hc hb hB hv hg
    have hiM := hr.1.2.2.1
    have hM1 := hM.1
    have h57 : G 57 4 = tk_ty T n (tk_pos T n i) := hc.1.2.1.1
    have hsle := tb_sg_le (tk_ty T n (tk_pos T n i))
    have hB0 := hB
    obtain ⟨m1, m2, m3, m4, m5, m6, m7, m8, m9, m10, m11, m12⟩ := hB0
    have m8 : W.length + 2 ≤ 20 * D + 20 := m8
    have hlc : lc < 100 ∧ lr < 100 := by unfold lim at hlim; omega
    show wok (dk_148_86b (dk_R nn (k + 1)) nn (dk_148_86 (dk_R nn (k + 1)) nn g) G lc D r v) _
    unfold dk_148_86b
    refine wok_f (fun z => absurd ((wd_slt (by decide) (by omega)).mp z) (by omega)) ?_
    rw [dkS_145, od_bS]
    dsimp only
    rw [h57]
    refine wok_i (fun q => ?_) (fun q => ?_)
    · have q1 := (wd_slt (by omega) (by omega)).mp q
      have q2 := (lim_s hlim).mp q1
      rw [dk_Re_149]
      have post : wok (dk_149 (dk_R nn k) nn G D) (fun _ K => (∃ i' w' s' nw' ns' np' ls' cs' H, (rm_to nn F H ∧ rm_fr F H) ∧ eg T n M G0 c0 O N off voff ph cx cb F G i ls cs w s nw ns np (0 :: c) D ((4, lr, 0, 0) :: W) L P Q H K i' ls' cs' w' s' nw' ns' np' (0 :: c) ∧ rts i w s nw ns i' w' s' nw' ns' ∧ H 0 64 = 4294967295) ∨ ∃ e p, rm_out nn e p F ∧ sx T n G0 c0 O e p N (zz D) K) := by
        rcases tb_sg_cases (T := T) (n := n) (p := tk_pos T n i) (by omega) with ⟨k1, k2 | k2⟩ | ⟨k1, k2⟩
        · refine op_and (x := 2) (o := 23) hM hE hk rfl hD hr hc hb hn hc0 hO hB (Or.inr ⟨rfl, rfl, rfl⟩) ⟨k1, k2⟩ ?_
          rw [(tk_ty_word (w := 1) (by decide)).mpr ⟨k1, k2⟩] at q2
          exact q2
        · refine op_and (x := 1) (o := 24) hM hE hk rfl hD hr hc hb hn hc0 hO hB (Or.inl ⟨rfl, rfl, rfl⟩) ⟨k1, k2⟩ ?_
          rw [(tk_ty_word (w := 15) (by decide)).mpr ⟨k1, k2⟩] at q2
          exact q2
        · refine op_ar hM hE hk rfl hD hr hc hb hn hc0 hO hB k2 ⟨k1, rfl⟩ ?_
          rw [(tk_ty_sign (bop_sign _ k2).1).mpr ⟨k1, rfl⟩] at q2
          exact q2
      refine wok_b post fun r1 K h1 => ?_
      dsimp only
      refine wok_l ?_
      rw [Nat.mod_eq_of_lt (show v + 1 < 4294967296 by omega)]
      rcases h1 with ⟨i1, w1, s1, nw1, ns1, np1, ls1, cs1, H1, g1, eg1, rt, r64⟩ | ⟨e, p, ho, hx⟩
      · have rt0 := rt
        obtain ⟨rt1, rt2, rt3, rt4, rt5⟩ := rt
        have h62 := hb.2.2.2.2.2.1
        refine wok_m (ih i1 w1 s1 nw1 ns1 np1 (v + 1) 0 ls1 cs1 H1 K eg1.1 eg1.2.1 eg1.2.2.1 ⟨by omega, by omega, by omega, by omega, eg1.2.2.2.2.2.2, m6, by omega, by show W.length + 2 ≤ _; omega, m9, m10, m11, m12⟩ (by omega) (by omega)) fun r2 K2 h2 => ?_
        rcases h2 with ⟨e1, e2, g2⟩ | ⟨i', w', s', nw', ns', np', ls', cs', H, e1, g2, eg2, rt', r64'⟩ | ⟨e, p, e1, ho, hx⟩
        · refine Or.inr (Or.inl ⟨i1, w1, s1, nw1, ns1, np1, ls1, cs1, wq_up H1 0 46 W.length, e1, ⟨rm_trans g1.1 g2.1, rm_fr_trans g1.2 g2.2⟩, ?_, rt0, ?_⟩)
          · rw [e2]
            exact eg_0 eg1 (ry_pop eg1.1) (fun d j q => wq_up_cell q) ⟨wq_up_at (by decide), wq_up_at (by decide)⟩ h62
          · rw [wq_up_at (by decide)]
            exact r64
        · obtain ⟨u1, u2, u3, u4, u5⟩ := rt'
          exact Or.inr (Or.inl ⟨i', w', s', nw', ns', np', ls', cs', H, e1, ⟨rm_trans g1.1 g2.1, rm_fr_trans g1.2 g2.2⟩, eg_t eg1 eg2 h62, ⟨by omega, by omega, by omega, by omega, by omega⟩, r64'⟩)
        · exact Or.inr (Or.inr ⟨e, p, e1, rm_to_out g1.1 g1.2 ho, hx⟩)
      · exact wok_m (sx_86 hx (by omega) (by omega)) fun r2 K2 h2 => Or.inr (Or.inr ⟨e, p, h2.1, ho, h2.2⟩)
    · have q2 : ¬ lr < tb_sr (tk_ty T n (tk_pos T n i)) := fun z => q ((wd_slt (by omega) (by omega)).mpr ((lim_s hlim).mpr z))
      refine wok_r (Or.inl ⟨rfl, rfl, ry_go hr (by show W.length < 4000; omega) (rgo_i (r := 1) ?_ (by decide) (ry_pop hr).1.1 (rm_fr_up (rm_fr_refl _) (by decide) (by decide)))⟩)
      show dk_32 nn _ 4 lr 0 0 = _
      rw [dk32_4, od_bI, rO_no hM (ry_pop hr) q2 (by omega)]
/-- an expression from its operand on -/
theorem E_tail {D k lc lr r : Nat} (hM : tk_M T n M) (hE : E_ok nn T n M G0 c0 O (D + 1)) (hk : 20 * (22 - (D + 1)) + 20 ≤ k) (hD : D ≤ 20) (htD : t + 1 = D) (hlim : lim lc lr) (hn : 10000 < nn) (hc0 : c0.length ≤ 1400) (hO : O ≤ 20000) (hB : bnd i w s nw ns np t (hg c) W L P Q N) (h62 : ∀ l, l < N → G 62 l < np)
    {i1 w1 s1 nw1 ns1 np1 : Nat} {ls1 cs1 : List (List Nat)} {H1 K1 : wq_F} (g1 : rm_to nn F H1 ∧ rm_fr F H1) (e1 : eg T n M G0 c0 O N off voff ph cx cb F G i ls cs w s nw ns np c (t + 1) ((4, lr, 0, 0) :: (1, 0, 0, 0) :: W) L P Q H1 K1 i1 ls1 cs1 w1 s1 nw1 ns1 np1 (0 :: c)) (rt : rts i w s nw ns i1 w1 s1 nw1 ns1) (ho : (r = 0 ∧ H1 0 64 = 4294967295) ∨ (r = 1 ∧ opn cb N F G w s nw ns np c H1 K1 ls1 cs1 w1 s1 nw1 ns1 np1)) :
    wok (dk_148_86 (dk_R nn (k + 1)) nn nn K1 lc D r 0) (fun r K => (∃ i' w' s' nw' ns' np' ls' cs' H, (rm_to nn F H ∧ rm_fr F H) ∧ eg T n M G0 c0 O N off voff ph cx cb F G i ls cs w s nw ns np c t W L P Q H K i' ls' cs' w' s' nw' ns' np' (0 :: c) ∧ rts i w s nw ns i' w' s' nw' ns' ∧ ((r = 0 ∧ H 0 64 = 4294967295) ∨ (r = 1 ∧ opn cb N F G w s nw ns np c H K ls' cs' w' s' nw' ns' np'))) ∨ ∃ e p, rm_out nn e p F ∧ sx T n G0 c0 O e p N (zz D + 70) K) := by
  subst htD
  have rt0 := rt
  obtain ⟨rt1, rt2, rt3, rt4, rt5⟩ := rt
  obtain ⟨m1, m2, m3, m4, m5, m6, m7, m8, m9, m10, m11, m12⟩ := hB
  have hN := e1.2.2.1.1.1.1
  refine wok_m (ops_loop (cb := cb) hM hE hk hD hlim hn hc0 hO nn i1 w1 s1 nw1 ns1 np1 0 r ls1 cs1 H1 K1 e1.1 e1.2.1 e1.2.2.1 ⟨by omega, by omega, by omega, by omega, e1.2.2.2.2.2.2, hD, by omega, by show W.length + 3 ≤ _; omega, ⟨by omega, m9.2⟩, by omega, by omega, by omega⟩ (Nat.zero_le _) (by omega)) fun r2 K2 h2 => ?_
  rcases h2 with ⟨a1, a2, g2⟩ | ⟨i', w', s', nw', ns', np', ls', cs', H, a1, g2, eg2, rt', r64'⟩ | ⟨e, p, a1, hx1, hx2⟩
  · subst a1
    subst a2
    have hp := ry_pop e1.1
    obtain ⟨H3, g3, r3, f3⟩ := rE_end (nn := nn) hp (by omega) (by omega)
    have f4 : ∀ d j, ¬ d = 0 → H3 d j = H1 d j := fun d j q => (f3 d j (by omega)).trans (wq_up_cell q)
    have f5 : ∀ j, ¬ (j = 46 ∨ j = 47) → H3 0 j = H1 0 j := fun j q => (f3 0 j (by omega)).trans (wq_up_at (by omega))
    refine Or.inl ⟨i1, w1, s1, nw1, ns1, np1, ls1, cs1, H3, ⟨rm_trans g1.1 (rm_trans g2.1 g3.1), rm_fr_trans g1.2 (rm_fr_trans g2.2 g3.2)⟩, eg_0 e1 r3 f4 ⟨f5 50 (by decide), f5 53 (by decide)⟩ h62, rt0, ?_⟩
    rcases ho with ⟨b1, b2⟩ | ⟨b1, b2⟩
    · exact Or.inl ⟨b1, (f5 64 (by decide)).trans b2⟩
    · exact Or.inr ⟨b1, opn_0 b2 f4 (f5 64 (by decide)) hN h62⟩
  · obtain ⟨H3, g3, r3, f3⟩ := rE_end (nn := nn) eg2.1 (by omega) (by omega)
    obtain ⟨u1, u2, u3, u4, u5⟩ := rt'
    exact Or.inl ⟨i', w', s', nw', ns', np', ls', cs', H3, ⟨rm_trans g1.1 (rm_trans g2.1 g3.1), rm_fr_trans g1.2 (rm_fr_trans g2.2 g3.2)⟩, eg_0 (eg_t e1 eg2 h62) r3 (fun d j q => f3 d j (by omega)) ⟨f3 0 50 (by decide), f3 0 53 (by decide)⟩ h62, ⟨by omega, by omega, by omega, by omega, by omega⟩, Or.inl ⟨a1, (f3 0 64 (by decide)).trans r64'⟩⟩
  · exact Or.inr ⟨e, p, rm_to_out g1.1 g1.2 hx1, sx_le hx2 (by omega)⟩
end
