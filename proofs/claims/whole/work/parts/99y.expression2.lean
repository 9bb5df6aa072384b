/-! ===== 99y: an expression, given its operands (wip/whole2/law99y.py) ===== -/
theorem E_step {nn : Nat} {T : Nat → Nat} {n M O D : Nat} {G0 : wq_F} {c0 : List (List Nat)} (hM : tk_M T n M) (hn : 10000 < nn) (hc0 : c0.length ≤ 1400) (hO : O ≤ 20000) (hE : D ≤ 20 → E_ok nn T n M G0 c0 O (D + 1)) (hP : D ≤ 20 → P_ok nn T n M G0 c0 O D) : E_ok nn T n M G0 c0 O D := by
  intro k lk lr i t w s nw ns np N off voff ph cx c cb W L P Q ls cs F G hk hlim htD hr hc hb hB
  have hB0 := hB
  obtain ⟨m1, m2, m3, m4, m5, m6, m7, m8, m9, m10, m11, m12⟩ := hB0
  have hiM := hr.1.2.2.1
  have hM1 := hM.1
  have h57 : G 57 4 = tk_ty T n (tk_pos T n i) := hc.1.2.1.1
  have hln : G 57 6 = 1 + lc T (tk_pos T n i) := hc.1.2.1.2.2.1
  have h62 := hb.2.2.2.2.2.1
  have hlc : lk < 100 ∧ lr < 100 := by unfold lim at hlim; omega
  have h1 := ry_pop hr
  have hfp : rm_fr F (wq_up F 0 46 W.length) := rm_fr_up (rm_fr_refl _) (by decide) (by decide)
  have hbp : bzF F (wq_up F 0 46 W.length) := bzF_up (bzF_refl _) (by omega)
  have hcp : ∀ d j, ¬ d = 0 → wq_up F 0 46 W.length d j = F d j := fun d j h => wq_up_cell h
  have h32 : ∀ m, dk_236 (wq_up F 0 46 W.length) lr = m → dk_32 nn (wq_up F 0 46 W.length) (3, lr, 0, 0).1 (3, lr, 0, 0).2.1 (3, lr, 0, 0).2.2.1 (3, lr, 0, 0).2.2.2 = m := fun m h => by
    show dk_32 nn (wq_up F 0 46 W.length) 3 lr 0 0 = m
    rw [dk32_3, od_bI]
    exact h
  have h41 : wq_up F 0 46 W.length 0 41 < 13999 := by rw [h1.2.1.2.1]; omega
  obtain ⟨k, rfl⟩ : ∃ m, k = m + 2 := ⟨k - 2, by omega⟩
  have hz : 6310 ≤ zz D + 70 ∧ zz D < 9900 := by unfold zz; omega
  rw [dk_Re_148]
  unfold dk_148
  rw [dkS_114, od_bS]
  dsimp only
  rw [h57]
  by_cases hex : tb_ex (tk_ty T n (tk_pos T n i)) = 0
  · refine wok_t hex (wok_b (bt_wr (B := 6200) hM h1 hc (bz_F hb hbp) (by omega) (by omega) m5 (by omega)).2 fun r K h => wok_r (Or.inr ⟨_, _, ry_ba hr (by omega) (rba_f (h32 _ (rE_no hM h1 hex)) hfp h41), sx_le h (by omega)⟩))
  refine wok_f hex ?_
  by_cases hdp : t = 20
  · refine wok_t ((wd_slt (by decide) (by omega)).mpr (by omega)) (wok_b (bt_f3 (B := 6200) hM h1 hc (bz_F hb hbp) (by omega) (by omega) m5 (by omega)).2 fun r K h => wok_r (Or.inr ⟨_, _, ry_ba hr (by omega) (rba_f (h32 _ (rE_deep hM h1 hex hdp)) hfp h41), sx_le h (by omega)⟩))
  have hD : D ≤ 20 := by omega
  refine wok_f (fun z => absurd ((wd_slt (by decide) (by omega)).mp z) (by omega)) ?_
  have hin := rE_in (a := lr) hM h1 hex (by omega) (by omega)
  have hmr := rE_mr (a := lr) h1
  have hmb := rE_mb (t := t) (a := lr) (bz_F hb hbp)
  have hmf := rm_fr_trans hfp (rE_mf (F := wq_up F 0 46 W.length) (t := t) (a := lr))
  have hmx : ∀ d j, 12 ≤ d ∧ d ≤ 24 → rE_m (wq_up F 0 46 W.length) t lr d j = F d j := fun d j h => (rE_mx h).trans (hcp d j (by omega))
  generalize rE_m (wq_up F 0 46 W.length) t lr = Fm at *
  rw [dkS_146, od_bS]
  dsimp only
  rw [h57]
  have un : ∀ x, ((x = 0 ∧ tk_k T n i = 4 ∧ tk_V T n (tk_pos T n i) = 14) ∨ ((x = 35 ∨ x = 45 ∨ x = 126) ∧ tk_k T n i = 5 ∧ tk_V T n (tk_pos T n i) = x)) → dk_236 (wq_up F 0 46 W.length) lr = dk_236_73 Fm → wok (if tb_un (tk_ty T n (tk_pos T n i)) = 4294967295 then (dk_R nn (k + 1) 150 [D] G).bind fun y12 => dk_148_86 (dk_R nn (k + 1)) nn nn y12.2 lk D y12.1 0 else (dk_77 nn G).bind fun y16 => (dk_R nn (k + 1) 148 [11, (D + 1) % 4294967296] y16.2).bind fun y20 => (dk_112 y20.2 (tb_un (tk_ty T n (tk_pos T n i))) 0 (G 57 6) 0).bind fun y24 => dk_148_86 (dk_R nn (k + 1)) nn nn y24.2 lk D 0 0) (fun r K => (∃ i' w' s' nw' ns' np' ls' cs' H, (rm_to nn F H ∧ rm_fr F H) ∧ eg T n M G0 c0 O N off voff ph cx cb F G i ls cs w s nw ns np c t W L P Q H K i' ls' cs' w' s' nw' ns' np' (0 :: c) ∧ rts i w s nw ns i' w' s' nw' ns' ∧ ((r = 0 ∧ H 0 64 = 4294967295) ∨ (r = 1 ∧ opn cb N F G w s nw ns np c H K ls' cs' w' s' nw' ns' np'))) ∨ ∃ e p, rm_out nn e p F ∧ sx T n G0 c0 O e p N (zz D + 70) K) := fun x hx he => by
    obtain ⟨u1, u2, u3⟩ := un_kind (T := T) (n := n) (i := i) hx
    rw [u1]
    refine wok_f u2 ?_
    have he := h32 _ (he.trans (rE_un hM hmr (by show W.length + 2 < 3990; omega) hx))
    have hr4 : ry T n M i ls (t + 1) w nw np ((3, 12, 0, 0) :: (5, x, 1 + lc T (tk_pos T n i), 0) :: (4, lr, 0, 0) :: (1, 0, 0, 0) :: W) L P (pm_la (pm_la Fm 5 x (1 + lc T (tk_pos T n i)) 0) 3 12 0 0) := ry_la (ry_la hmr)
    have hf4 : rm_fr F (pm_la (pm_la Fm 5 x (1 + lc T (tk_pos T n i)) 0) 3 12 0 0) := rm_fr_la (rm_fr_la hmf)
    have hb4 := bz_la (k := 3) (x := 12) (y := 0) (z := 0) (bz_la (k := 5) (x := x) (y := 1 + lc T (tk_pos T n i)) (z := 0) hmb)
    have hx4 : ∀ d j, 12 ≤ d ∧ d ≤ 24 → pm_la (pm_la Fm 5 x (1 + lc T (tk_pos T n i)) 0) 3 12 0 0 d j = F d j := fun d j h => by
      rw [pm_la_ne (by omega) (by omega), pm_la_ne (by omega) (by omega), hmx d j h]
    generalize pm_la (pm_la Fm 5 x (1 + lc T (tk_pos T n i)) 0) 3 12 0 0 = F4 at *
    have hx3 : x = 0 ∨ x = 35 ∨ x = 45 ∨ x = 126 := by omega
    have tl : ∀ (e p B : Nat) (K : wq_F), sx T n G0 c0 O e p N B K → B + 5 ≤ zz D + 70 → rm_out nn e p F → wok ((dk_112 K (un_of x) 0 (G 57 6) 0).bind fun y24 => dk_148_86 (dk_R nn (k + 1)) nn nn y24.2 lk D 0 0) (fun r K => (∃ i' w' s' nw' ns' np' ls' cs' H, (rm_to nn F H ∧ rm_fr F H) ∧ eg T n M G0 c0 O N off voff ph cx cb F G i ls cs w s nw ns np c t W L P Q H K i' ls' cs' w' s' nw' ns' np' (0 :: c) ∧ rts i w s nw ns i' w' s' nw' ns' ∧ ((r = 0 ∧ H 0 64 = 4294967295) ∨ (r = 1 ∧ opn cb N F G w s nw ns np c H K ls' cs' w' s' nw' ns' np'))) ∨ ∃ e p, rm_out nn e p F ∧ sx T n G0 c0 O e p N (zz D + 70) K) := fun e p B K h hB ho => by
      refine wok_b (sx_112 h (by omega)) fun r K h => ?_
      exact wok_m (sx_86 h (by omega) (by omega)) fun r K h => Or.inr ⟨e, p, ho, sx_le h.2 (by omega)⟩
    refine wok_b (bt_77 (B := 6200) hM hr4 hc hb4 (by unfold tk_k at *; omega) (by unfold tk_k at *; omega) (by omega) hc0 hO (by omega) (by omega) m5 (by omega)) fun r1 K1 h2 => ?_
    dsimp only
    rw [Nat.mod_eq_of_lt (show D + 1 < 4294967296 by omega)]
    rcases h2 with ⟨iM, e2, ms, c1, b1, f1, p1⟩ | ⟨e2, hx1⟩
    · have hr5 := ry_nx hr4 iM
      have g1 := ry_go (nn := nn) hr (by omega) (rgo_i (he.trans e2) (by decide) hr5.1.1 (rm_fr_up hf4 (by decide) (by decide)))
      have b5 : bz N off voff ph cx c np (wq_up F4 0 25 (i + 1)) ls K1 ms := bz_fu b1 (by omega)
      have hx5 : ∀ d j, 12 ≤ d ∧ d ≤ 24 → wq_up F4 0 25 (i + 1) d j = F d j := fun d j h => (wq_up_cell (by omega)).trans (hx4 d j h)
      generalize wq_up F4 0 25 (i + 1) = F5 at *
      have eg1 : eg T n M G0 c0 O N off voff ph cx cb F G i ls cs w s nw ns np c (t + 1) _ L P Q F5 K1 (i + 1) ls ms w s nw ns np c := eg_n hr5 c1 b5 (fun d j h => hx5 d j (by omega)) (qf_fr f1) p1 (by omega) m5
      refine wok_b (hE hD (k + 1) 11 12 (i + 1) (t + 1) w s nw ns np N off voff ph cx c cb _ L P Q ls ms F5 K1 (by omega) (Or.inr (Or.inr (Or.inr (Or.inr ⟨rfl, rfl⟩)))) (by omega) hr5 c1 b5 ⟨by omega, by omega, by omega, by omega, m5, by omega, by omega, by show W.length + 3 ≤ _; omega, ⟨by omega, m9.2⟩, by omega, by omega, by omega⟩) fun r4 K4 h4 => ?_
      dsimp only
      rcases h4 with ⟨i', w', s', nw', ns', np', ls', cs', F6, g2, eg2, rt, _⟩ | ⟨e, p, ho, hx4⟩
      · obtain ⟨rt1, rt2, rt3, rt4, rt5⟩ := rt
        have hi' := eg2.1.1.2.2.1
        rw [hln]
        refine wok_b (un_step (nn := nn) (cb := cb) eg2.1 eg2.2.1 eg2.2.2.1 hx3 (by omega) (by omega) (by show W.length + 2 < 3990; omega) (by omega) eg2.2.2.2.2.2.2) fun r6 K6 ⟨H, g3, eg3, q3⟩ => ?_
        dsimp only
        exact E_tail hM (hE hD) (by omega) hD htD hlim hn hc0 hO hB h62 ⟨rm_trans g1.1 (rm_trans g2.1 g3.1), rm_fr_trans g1.2 (rm_fr_trans g2.2 g3.2)⟩ (eg_t (eg_t eg1 eg2 h62) eg3 h62) ⟨by omega, by omega, by omega, by omega, by omega⟩ (Or.inl ⟨rfl, q3⟩)
      · exact tl _ _ _ _ hx4 (by unfold zz; omega) (rm_to_out g1.1 g1.2 ho)
    · refine wok_b (sx_148 hx1 (by omega)) fun r K h => ?_
      exact tl _ _ _ _ h.2 (by omega) (ry_ba hr (by omega) (rba_f (he.trans e2) hf4 (by rw [hr4.2.1.2.1]; omega)))
  by_cases q1 : tk_k T n i = 4 ∧ tk_V T n (tk_pos T n i) = 14
  · exact un 0 (Or.inl ⟨rfl, q1⟩) (by rw [hin, if_pos q1])
  rw [if_neg q1] at hin
  by_cases q2 : tk_k T n i = 5 ∧ tk_V T n (tk_pos T n i) = 35
  · exact un 35 (Or.inr ⟨by decide, q2⟩) (by rw [hin, if_pos q2])
  rw [if_neg q2] at hin
  by_cases q3 : tk_k T n i = 5 ∧ tk_V T n (tk_pos T n i) = 45
  · exact un 45 (Or.inr ⟨by decide, q3⟩) (by rw [hin, if_pos q3])
  rw [if_neg q3] at hin
  by_cases q4 : tk_k T n i = 5 ∧ tk_V T n (tk_pos T n i) = 126
  · exact un 126 (Or.inr ⟨by decide, q4⟩) (by rw [hin, if_pos q4])
  rw [if_neg q4] at hin
  have hnone := un_none q1 q2 q3 q4
  refine wok_t hnone ?_
  have eg1 : eg T n M G0 c0 O N off voff ph cx cb F G i ls cs w s nw ns np c (t + 1) _ L P Q Fm G i ls cs w s nw ns np c := eg_n hmr hc hmb (fun d j h => hmx d j (by omega)) (qf_refl _) (st_pre_refl _) (Nat.le_refl _) m5
  refine wok_b (hP hD (k + 1) i (t + 1) w s nw ns np N off voff ph cx c cb _ L P Q ls cs Fm G (by omega) htD hex hnone hmr hc hmb ⟨by omega, by omega, by omega, by omega, m5, by omega, by omega, by show W.length + 2 ≤ _; omega, ⟨by omega, m9.2⟩, by omega, by omega, by omega⟩ ⟨by show W.length + 2 ≤ _; omega, by omega⟩) fun r1 K1 h1 => ?_
  dsimp only
  rcases h1 with ⟨i', w', s', nw', ns', np', ls', cs', H, g2, eg2, rt, ho⟩ | ⟨e, p, hb2, hx⟩
  · have g3 := ry_go hr (by omega) (by rw [h32 _ hin]; exact rgo_fr g2 hmf)
    have eg3 := eg_t eg1 eg2 h62
    refine E_tail hM (hE hD) (by omega) hD htD hlim hn hc0 hO hB h62 g3 eg3 rt ?_
    rcases ho with z | ⟨z1, z2, z3, z4, z5⟩
    · exact Or.inl z
    · refine Or.inr ⟨z1, z2, z3, z4, ?_⟩
      exact pj_t eg1.2.2.2.1 z5 eg2.2.2.2.2.1.1.1 eg2.2.2.2.2.1.2.1 (fun g hg ⟨l, l1, l2⟩ => by have := h62 l l1; omega) (h62 (N - 1) (by have := hb.1.1.1; omega))
  · refine wok_m (sx_86 hx (by omega) (by omega)) fun r K h => Or.inr ⟨e, p, ry_ba hr (by omega) (by rw [h32 _ hin]; exact rba_fr hb2 hmf), sx_le h.2 (by omega)⟩
