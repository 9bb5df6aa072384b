/-! ===== a22: a body that can't be opened (wip/whole2/lawa22.py) ===== -/
section
variable {nn : Nat} {T : Nat → Nat} {n M O : Nat} {G0 : wq_F} {c0 : List (List Nat)} {i t w s nw ns np N : Nat} {off voff ph : Nat → Nat} {cx : Nat → List Nat} {c cb : List Nat} {W : List (Nat × Nat × Nat × Nat)} {L : List (Nat × Nat)} {P Q : List (Nat × Nat × Nat)} {ls cs : List (List Nat)} {F G : wq_F}

theorem body_no {sf D k : Nat} (hM : tk_M T n M) (hr : ry T n M i ls t w nw np ((19, sf, 0, 0) :: W) L P F) (hc : cy T n G0 c0 O i cs s ns np N Q G) (hb : bz N off voff ph cx c np F ls G cs) (hB : bnd i w s nw ns np t (hg c) W L P Q N) (hk : 1 ≤ k) (hno : ¬ (tk_k T n i = 5 ∧ tk_V T n (tk_pos T n i) = 40) ∨ np = 50) : wok (dk_R nn k 155 [D, sf] G) (fun _ K => ∃ e p, rm_out nn e p F ∧ sx T n G0 c0 O e p N 6200 K) := by
  obtain ⟨m1, m2, m3, m4, m5, m6, m7, m8, m9, m10, m11, m12⟩ := hB
  have hM1 := hM.1
  have hiM := hr.1.2.2.1
  have h57 : G 57 4 = tk_ty T n (tk_pos T n i) := hc.1.2.1.1
  have h14 : G 11 14 = np := hc.2.1.2.2.1
  obtain ⟨k, rfl⟩ : ∃ m, k = m + 1 := ⟨k - 1, by omega⟩
  have h1 := ry_pop hr
  have hba := fun k p => ry_ba (nn := nn) (k := k) (p := p) hr (by show W.length < 4000; omega)
  have h33 : dk_32 nn (wq_up F 0 46 W.length) (19, sf, 0, 0).1 (19, sf, 0, 0).2.1 (19, sf, 0, 0).2.2.1 (19, sf, 0, 0).2.2.2 = dk_253 nn (wq_up F 0 46 W.length) sf := by
    show dk_32 nn (wq_up F 0 46 W.length) 19 sf 0 0 = _
    rw [dk32_19, od_bI]
  have b1 : bz N off voff ph cx c np (wq_up F 0 46 W.length) ls G cs := bz_fu hb (by omega)
  have f1 : rm_fr F (wq_up F 0 46 W.length) := rm_fr_up (rm_fr_refl _) (by decide) (by decide)
  generalize wq_up F 0 46 W.length = F1 at *
  have hw1 : F1 0 41 < 13999 := by rw [h1.2.1.2.1]; omega
  have h34 : F1 0 34 = np := h1.2.1.2.2.2
  unfold dk_253 at h33
  rw [pm_isSign hM h1.1 (by decide), od_bS] at h33
  dsimp only at h33
  rw [if_ck] at h33
  rw [dk_Re_155]
  unfold dk_155
  by_cases q : tk_k T n i = 5 ∧ tk_V T n (tk_pos T n i) = 40
  · have hnp : np = 50 := by
      rcases hno with z | z
      · exact absurd q z
      · exact z
    rw [if_pos q, if_pos (h34.trans hnp), pm_here hM h1.1, od_bS] at h33
    dsimp only at h33
    rw [pm_fail h1.1, od_bS] at h33
    refine wok_t (h57.trans ((tk_ty_sign (c := 40) (by decide)).mpr q)) (wok_f (fun z => ?_) ?_)
    · rw [h14, hnp] at z
      exact absurd z (by decide)
    · refine wok_b (bt_f3 (B := 6200) hM h1 hc b1 (by omega) (by omega) m5 (by omega)).2 fun r K h => wok_r ⟨_, _, hba _ _ (rba_f h33 f1 hw1), h⟩
  · rw [if_neg q, pm_wrong hM h1.1, od_bS] at h33
    refine wok_f (fun z => q ((tk_ty_sign (c := 40) (by decide)).mp (h57.symm.trans z))) ?_
    refine wok_b (bt_wr (B := 6200) hM h1 hc b1 (by omega) (by omega) m5 (by omega)).2 fun r K h => wok_r ⟨_, _, hba _ _ (rba_f h33 f1 hw1), h⟩
end
