/-! ===== a08: the reference at a name (wip/whole2/lawa08.py) ===== -/
theorem rd_chain {F : wq_F} {ls : List (List Nat)} {T : Nat → Nat} {n M i : Nat} (hM : tk_M T n M) (h : pm_at T n M i F ls) (hk : tk_k T n i = 1 ∨ (tk_k T n i = 5 ∧ tk_V T n (tk_pos T n i) = 40)) (h46 : F 0 46 < 3990) : dk_238 F = some (1, pm_la (pm_la (wq_up F 0 64 4294967295) 11 0 0 0) 7 0 0 0) := by
  have h1 : pm_at T n M i (wq_up F 0 64 4294967295) ls := pm_at_x h (fun d j a b => wq_up_cell (by omega)) (fun j hj => wq_up_ne (by omega))
  have hb := pm_b hM h1
  have hkd := pm_kind h1
  have h46' : wq_up F 0 64 4294967295 0 46 = F 0 46 := wq_up_at (by decide)
  unfold dk_238
  rw [od_upS]
  rw [od_g1 hb]
  rw [if_neg (show ¬ _ by omega)]
  rw [od_g1 hb]
  rw [if_neg (show ¬ _ by omega)]
  rw [pm_isWord hM h1 (by decide), od_bS]
  dsimp only
  rw [if_ck]
  rw [if_neg (by omega)]
  rw [pm_isWord hM h1 (by decide), od_bS]
  dsimp only
  rw [if_ck]
  rw [if_neg (by omega)]
  rw [pm_isWord hM h1 (by decide), od_bS]
  dsimp only
  rw [if_ck]
  rw [if_neg (by omega)]
  rw [pm_isSign hM h1 (by decide), od_bS]
  dsimp only
  rw [if_ck]
  rw [if_neg (by omega)]
  rw [pm_isWord hM h1 (by decide), od_bS]
  dsimp only
  rw [if_ck]
  rw [if_neg (by omega)]
  rw [pm_isSign hM h1 (by decide), od_bS]
  dsimp only
  rw [if_ck]
  rw [if_neg (by omega)]
  rw [dkS_31 (by omega), od_bS]
  dsimp only
  rw [dkS_31 (by rw [pm_la_at.2.2.2.2]; omega), od_bS]
section
variable {nn : Nat} {T : Nat → Nat} {n M O : Nat} {G0 : wq_F} {c0 : List (List Nat)} {i t w s nw ns np N : Nat} {off voff ph : Nat → Nat} {cx : Nat → List Nat} {c cb : List Nat} {W : List (Nat × Nat × Nat × Nat)} {L : List (Nat × Nat)} {P Q : List (Nat × Nat × Nat)} {ls cs : List (List Nat)} {F G : wq_F}

/-- the chain's first name -/
theorem rC_name (hM : tk_M T n M) (hr : ry T n M i ls t w nw np W L P F) (hk : tk_k T n i = 1) : dk_243 nn F = (dk_222 nn F (ev_oL2i (18446744073709551616 + F 11 (F 0 25))) (tk_pos T n i)).bind fun y32 => (dk_31 y32.2 8 0 0 0).bind fun y36 => if (y36.2 0 4) = 0 then (dk_212 y36.2).bind fun y41 => if y41.1 = 0 then some (0, y41.2) else some (1, y41.2) else some (0, y36.2) := by
  have hb := pm_b hM hr.1
  have hkd := pm_kind hr.1
  unfold dk_243
  rw [od_g1 hb, if_pos (hkd.trans hk), od_g1 hb, od_letS, pm_here hM hr.1, od_bS]
/-- a name that is one token too much -/
theorem ref_over (hM : tk_M T n M) (hr : ry T n M i ls t w nw np ((3, 0, 0, 0) :: W) L P F) (hc : cy T n G0 c0 O i cs s ns np N Q G) (hb : bz N off voff ph cx c np F ls G cs) (hk : tk_k T n i = 1) (hi : i = 1500) (hn : 10000 < nn) (hc0 : c0.length ≤ 1400) (hO : O ≤ 20000) (hs : s ≤ 6190) (hw : w ≤ 9100) (hns : ns ≤ 10000) (hnf : np ≤ 50) (hQ : Q.length ≤ 440) (hW : W.length < 3900) (ht : t ≤ 20) : rm_out nn 3 (tk_pos T n i) F := by
  have h1 := ry_pop hr
  have hex : ¬ tb_ex (tk_ty T n (tk_pos T n i)) = 0 := by
    rw [(tk_ty_kind (T := T) (n := n) (p := tk_pos T n i)).1.mpr hk]
    decide
  have hfp : rm_fr F (wq_up F 0 46 W.length) := rm_fr_up (rm_fr_refl _) (by decide) (by decide)
  have hba := fun k p => ry_ba (nn := nn) (k := k) (p := p) hr (by show W.length < 4000; omega)
  have hgo := fun H => ry_go (nn := nn) (H := H) hr (by show W.length < 4000; omega)
  have h32 : dk_32 nn (wq_up F 0 46 W.length) (3, 0, 0, 0).1 (3, 0, 0, 0).2.1 (3, 0, 0, 0).2.2.1 (3, 0, 0, 0).2.2.2 = dk_236 (wq_up F 0 46 W.length) 0 := by
    show dk_32 nn (wq_up F 0 46 W.length) 3 0 0 0 = _
    rw [dk32_3, od_bI]
  by_cases h20 : t = 20
  · exact hba _ _ (rba_f (h32.trans (rE_deep hM h1 hex h20)) hfp (by rw [h1.2.1.2.1]; omega))
  have hin := rE_in (a := 0) hM h1 hex (by omega) (by omega)
  rw [if_neg (by omega), if_neg (by omega), if_neg (by omega), if_neg (by omega)] at hin
  have hmr := rE_mr (a := 0) h1
  have hmb := rE_mb (t := t) (a := 0) (bz_fu (d := 0) (j := 46) (v := W.length) hb (by omega))
  have hmf := rm_fr_trans hfp (rE_mf (F := wq_up F 0 46 W.length) (t := t) (a := 0))
  generalize rE_m (wq_up F 0 46 W.length) t 0 = Fm at *
  rw [rd_chain hM hmr.1 (Or.inl hk) (by rw [hmr.2.2.1.1]; show W.length + 2 < 3990; omega)] at hin
  have hr2 : ry T n M i ls (t + 1) w nw np ((7, 0, 0, 0) :: (11, 0, 0, 0) :: (4, 0, 0, 0) :: (1, 0, 0, 0) :: W) L P (pm_la (pm_la (wq_up Fm 0 64 4294967295) 11 0 0 0) 7 0 0 0) := ry_la (ry_la (ry_up hmr (by unfold ry_n; omega)))
  have b2 : bz N off voff ph cx c np (pm_la (pm_la (wq_up Fm 0 64 4294967295) 11 0 0 0) 7 0 0 0) ls G cs := bz_la (bz_la (bz_fu hmb (by omega)))
  have g2 := hgo _ (rgo_i (h32.trans hin) (by decide) hr2.1.1 (rm_fr_la (rm_fr_la (rm_fr_up hmf (by decide) (by decide)))))
  generalize pm_la (pm_la (wq_up Fm 0 64 4294967295) 11 0 0 0) 7 0 0 0 = F2 at *
  have h3 := ry_pop hr2
  have b3 := bz_fu (d := 0) (j := 46) (v := ((11, 0, 0, 0) :: (4, 0, 0, 0) :: (1, 0, 0, 0) :: W).length) b2 (by omega)
  have f3 : rm_fr F2 (wq_up F2 0 46 ((11, 0, 0, 0) :: (4, 0, 0, 0) :: (1, 0, 0, 0) :: W).length) := rm_fr_up (rm_fr_refl _) (by decide) (by decide)
  have hba2 := fun k p => ry_ba (nn := nn) (k := k) (p := p) hr2 (by show W.length + 3 < 4000; omega)
  have h33 : dk_32 nn (wq_up F2 0 46 ((11, 0, 0, 0) :: (4, 0, 0, 0) :: (1, 0, 0, 0) :: W).length) (7, 0, 0, 0).1 (7, 0, 0, 0).2.1 (7, 0, 0, 0).2.2.1 (7, 0, 0, 0).2.2.2 = dk_243 nn (wq_up F2 0 46 ((11, 0, 0, 0) :: (4, 0, 0, 0) :: (1, 0, 0, 0) :: W).length) := by
    show dk_32 nn (wq_up F2 0 46 ((11, 0, 0, 0) :: (4, 0, 0, 0) :: (1, 0, 0, 0) :: W).length) 7 0 0 0 = _
    rw [dk32_7, od_bI]
  generalize wq_up F2 0 46 ((11, 0, 0, 0) :: (4, 0, 0, 0) :: (1, 0, 0, 0) :: W).length = F3 at *
  have hC := rC_name (nn := nn) hM h3 hk
  refine rm_to_out g2.1 g2.2 ?_
  rcases name_both (nn := nn) hM h3 hc b3 hk hn (by omega) hns hnf hQ hc0 with ⟨H, A, d1, d2, d3, d4, d5, d6, _⟩ | ⟨H, A, d1, d2, d3, d4, d5, d6, _⟩
  · have h46 : H 0 46 = W.length + 3 := d3.2.2.1.1
    rw [d1, od_bS] at hC
    dsimp only at hC
    rw [dkS_31 (by omega), od_bS] at hC
    dsimp only at hC
    have hr4 : ry T n M i ls (t + 1) w nw np ((8, 0, 0, 0) :: (11, 0, 0, 0) :: (4, 0, 0, 0) :: (1, 0, 0, 0) :: W) L P (pm_la H 8 0 0 0) := ry_la d3
    have hf4 : rm_fr F2 (pm_la H 8 0 0 0) := rm_fr_la (rm_fr_trans f3 d6)
    rw [if_pos hr4.1.1, pm_take hM hr4.1 (by omega), if_pos hi, od_bS] at hC
    exact hba2 _ _ (rba_f (h33.trans (hC.trans (if_pos rfl))) hf4 (by rw [hr4.2.1.2.1]; omega))
  · have h46 : H 0 46 = W.length + 3 := (d6 46 (by decide)).trans h3.2.2.1.1
    rw [d1, od_bS] at hC
    dsimp only at hC
    rw [dkS_31 (by omega), od_bS] at hC
    dsimp only at hC
    have e0 : ∀ j, ¬ j = 46 → pm_la H 8 0 0 0 0 j = H 0 j := fun j hj => pm_la_ne (by omega) (by omega)
    rw [if_neg (by rw [e0 4 (by decide), d3]; decide)] at hC
    refine hba2 3 _ (rba_i (h33.trans hC) (Or.inl rfl) ((e0 4 (by decide)).trans d3) ((e0 5 (by decide)).trans d4) (rm_fr_la (rm_fr_trans f3 d5)) ?_)
    rw [e0 41 (by decide), d6 41 (by decide), h3.2.1.2.1]
    omega
end
