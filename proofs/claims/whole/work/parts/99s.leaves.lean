/-! ===== 99s: operands that are constants (wip/whole2/law99s.py) ===== -/
theorem if_ck {α : Sort _} {C : Prop} [Decidable C] {a b : α} : (if (if C then 1 else 0) = 0 then a else b) = if C then b else a := by
  by_cases q : C
  · rw [if_pos q, if_pos q, if_neg (by decide)]
  · rw [if_neg q, if_neg q, if_pos rfl]
theorem rd_nil {F : wq_F} {ls : List (List Nat)} {T : Nat → Nat} {n M i : Nat} (hM : tk_M T n M) (h : pm_at T n M i F ls) (hk : tk_k T n i = 4 ∧ tk_V T n (tk_pos T n i) = 13) : dk_238 F = dk_237 (wq_up F 0 64 4294967295) 1 0 := by
  have h1 : pm_at T n M i (wq_up F 0 64 4294967295) ls := pm_at_x h (fun d j a b => wq_up_cell (by omega)) (fun j hj => wq_up_ne (by omega))
  have hb := pm_b hM h1
  have hkd := pm_kind h1
  unfold dk_238
  rw [od_upS]
  rw [od_g1 hb]
  rw [if_neg (show ¬ _ by omega)]
  rw [od_g1 hb]
  rw [if_neg (show ¬ _ by omega)]
  rw [pm_isWord hM h1 (by decide), od_bS]
  dsimp only
  rw [if_ck]
  rw [if_pos hk]
  rw [od_bI]
theorem rd_true {F : wq_F} {ls : List (List Nat)} {T : Nat → Nat} {n M i : Nat} (hM : tk_M T n M) (h : pm_at T n M i F ls) (hk : tk_k T n i = 4 ∧ tk_V T n (tk_pos T n i) = 19) : dk_238 F = dk_237 (wq_up F 0 64 4294967295) 2 1 := by
  have h1 : pm_at T n M i (wq_up F 0 64 4294967295) ls := pm_at_x h (fun d j a b => wq_up_cell (by omega)) (fun j hj => wq_up_ne (by omega))
  have hb := pm_b hM h1
  have hkd := pm_kind h1
  unfold dk_238
  rw [od_upS]
  rw [od_g1 hb]
  rw [if_neg (show ¬ _ by omega)]
  rw [od_g1 hb]
  rw [if_neg (show ¬ _ by omega)]
  rw [pm_isWord hM h1 (by decide), od_bS]
  dsimp only
  rw [if_ck]
  rw [if_neg (by omega)]
  rw [pm_isWord hM h1 (by decide), od_bS]
  dsimp only
  rw [if_ck]
  rw [if_pos hk]
  unfold dk_238_121
  rw [pm_isWord hM h1 (by decide), od_bS]
  dsimp only
  rw [if_ck, if_pos hk, od_bI]
theorem rd_false {F : wq_F} {ls : List (List Nat)} {T : Nat → Nat} {n M i : Nat} (hM : tk_M T n M) (h : pm_at T n M i F ls) (hk : tk_k T n i = 4 ∧ tk_V T n (tk_pos T n i) = 7) : dk_238 F = dk_237 (wq_up F 0 64 4294967295) 2 0 := by
  have h1 : pm_at T n M i (wq_up F 0 64 4294967295) ls := pm_at_x h (fun d j a b => wq_up_cell (by omega)) (fun j hj => wq_up_ne (by omega))
  have hb := pm_b hM h1
  have hkd := pm_kind h1
  unfold dk_238
  rw [od_upS]
  rw [od_g1 hb]
  rw [if_neg (show ¬ _ by omega)]
  rw [od_g1 hb]
  rw [if_neg (show ¬ _ by omega)]
  rw [pm_isWord hM h1 (by decide), od_bS]
  dsimp only
  rw [if_ck]
  rw [if_neg (by omega)]
  rw [pm_isWord hM h1 (by decide), od_bS]
  dsimp only
  rw [if_ck]
  rw [if_neg (by omega)]
  rw [pm_isWord hM h1 (by decide), od_bS]
  dsimp only
  rw [if_ck]
  rw [if_pos hk]
  unfold dk_238_121
  rw [pm_isWord hM h1 (by decide), od_bS]
  dsimp only
  rw [if_ck, if_neg (by omega), od_bI]
theorem rd_func {F : wq_F} {ls : List (List Nat)} {T : Nat → Nat} {n M i : Nat} (hM : tk_M T n M) (h : pm_at T n M i F ls) (hk : tk_k T n i = 4 ∧ tk_V T n (tk_pos T n i) = 9) : dk_238 F = (dk_31 (wq_up F 0 64 4294967295) 19 0 0 0).bind fun y => dk_212 y.2 := by
  have h1 : pm_at T n M i (wq_up F 0 64 4294967295) ls := pm_at_x h (fun d j a b => wq_up_cell (by omega)) (fun j hj => wq_up_ne (by omega))
  have hb := pm_b hM h1
  have hkd := pm_kind h1
  unfold dk_238
  rw [od_upS]
  rw [od_g1 hb]
  rw [if_neg (show ¬ _ by omega)]
  rw [od_g1 hb]
  rw [if_neg (show ¬ _ by omega)]
  rw [pm_isWord hM h1 (by decide), od_bS]
  dsimp only
  rw [if_ck]
  rw [if_neg (by omega)]
  rw [pm_isWord hM h1 (by decide), od_bS]
  dsimp only
  rw [if_ck]
  rw [if_neg (by omega)]
  rw [pm_isWord hM h1 (by decide), od_bS]
  dsimp only
  rw [if_ck]
  rw [if_neg (by omega)]
  rw [pm_isSign hM h1 (by decide), od_bS]
  dsimp only
  rw [if_ck]
  rw [if_neg (by omega)]
  rw [pm_isWord hM h1 (by decide), od_bS]
  dsimp only
  rw [if_ck]
  rw [if_pos hk]
  simp only [od_bI]
theorem rd_tab {F : wq_F} {ls : List (List Nat)} {T : Nat → Nat} {n M i : Nat} (hM : tk_M T n M) (h : pm_at T n M i F ls) (hk : tk_k T n i = 5 ∧ tk_V T n (tk_pos T n i) = 123) : dk_238 F = dk_248 (wq_up F 0 64 4294967295) := by
  have h1 : pm_at T n M i (wq_up F 0 64 4294967295) ls := pm_at_x h (fun d j a b => wq_up_cell (by omega)) (fun j hj => wq_up_ne (by omega))
  have hb := pm_b hM h1
  have hkd := pm_kind h1
  unfold dk_238
  rw [od_upS]
  rw [od_g1 hb]
  rw [if_neg (show ¬ _ by omega)]
  rw [od_g1 hb]
  rw [if_neg (show ¬ _ by omega)]
  rw [pm_isWord hM h1 (by decide), od_bS]
  dsimp only
  rw [if_ck]
  rw [if_neg (by omega)]
  rw [pm_isWord hM h1 (by decide), od_bS]
  dsimp only
  rw [if_ck]
  rw [if_neg (by omega)]
  rw [pm_isWord hM h1 (by decide), od_bS]
  dsimp only
  rw [if_ck]
  rw [if_neg (by omega)]
  rw [pm_isSign hM h1 (by decide), od_bS]
  dsimp only
  rw [if_ck]
  rw [if_neg (by omega)]
  rw [pm_isWord hM h1 (by decide), od_bS]
  dsimp only
  rw [if_ck]
  rw [if_neg (by omega)]
  rw [pm_isSign hM h1 (by decide), od_bS]
  dsimp only
  rw [if_ck]
  rw [if_pos hk]
  rw [od_bI]
section
variable {nn : Nat} {T : Nat → Nat} {n M O : Nat} {G0 : wq_F} {c0 : List (List Nat)} {i t w s nw ns np N : Nat} {off voff ph : Nat → Nat} {cx : Nat → List Nat} {c cb : List Nat} {W : List (Nat × Nat × Nat × Nat)} {L : List (Nat × Nat)} {P Q : List (Nat × Nat × Nat)} {ls cs : List (List Nat)} {F G : wq_F}

theorem op_nil {R : dk_Rt} {D : Nat} (hM : tk_M T n M) (hr : ry T n M i ls t w nw np W L P F) (hc : cy T n G0 c0 O i cs s ns np N Q G) (hb : bz N off voff ph cx c np F ls G cs) (hn : 10000 < nn) (hc0 : c0.length ≤ 1400) (hO : O ≤ 20000) (hB : bnd i w s nw ns np t (hg c) W L P Q N) (hk : tk_k T n i = 4 ∧ tk_V T n (tk_pos T n i) = 13) : wok (dk_150 R nn G D) (fun r K => O_ok nn T n M G0 c0 O N off voff ph cx cb F G i ls cs w s nw ns np c t W L P Q (dk_238 F) 6200 r K) := by
  have h57 : G 57 4 = 22 := hc.1.2.1.1.trans ((tk_ty_word (by decide)).mpr hk)
  obtain ⟨b1, b2, b3, b4, b5, b6, b7, b8, b9, b10, b11, b12⟩ := hB
  rw [rd_nil hM hr.1 hk]
  unfold dk_150
  refine wok_l (wok_f (by omega) (wok_f (by omega) (wok_f (by omega) (wok_f (by omega) (wok_t h57 ?_)))))
  refine wok_m (o_const (cb := cb) (o := 1) (a := 0) hM (ry_up hr (by unfold ry_n; omega)) hc (bz_fu hb (by omega)) hn hc0 hO (by omega) (by omega) (by omega) (by omega) (by omega) (by omega) b5 (by omega) (by omega) (fun d j h => wq_up_cell (by omega)) (rm_fr_up (rm_fr_refl _) (by decide) (by decide)) (fun d j _ => rfl) (fun H J nm e1 e2 e3 e4 _ _ hnm => ⟨1, e1, e3, e4, rfl⟩)) fun r K h => C_O h (by omega) (by omega)
theorem op_true {R : dk_Rt} {D : Nat} (hM : tk_M T n M) (hr : ry T n M i ls t w nw np W L P F) (hc : cy T n G0 c0 O i cs s ns np N Q G) (hb : bz N off voff ph cx c np F ls G cs) (hn : 10000 < nn) (hc0 : c0.length ≤ 1400) (hO : O ≤ 20000) (hB : bnd i w s nw ns np t (hg c) W L P Q N) (hk : tk_k T n i = 4 ∧ tk_V T n (tk_pos T n i) = 19) : wok (dk_150 R nn G D) (fun r K => O_ok nn T n M G0 c0 O N off voff ph cx cb F G i ls cs w s nw ns np c t W L P Q (dk_238 F) 6200 r K) := by
  have h57 : G 57 4 = 28 := hc.1.2.1.1.trans ((tk_ty_word (by decide)).mpr hk)
  obtain ⟨b1, b2, b3, b4, b5, b6, b7, b8, b9, b10, b11, b12⟩ := hB
  rw [rd_true hM hr.1 hk]
  unfold dk_150
  refine wok_l (wok_f (by omega) (wok_f (by omega) (wok_f (by omega) (wok_f (by omega) (wok_f (by omega) (wok_t h57 (wok_t h57 ?_)))))))
  refine wok_m (o_const (cb := cb) (o := 2) (a := 1) hM (ry_up hr (by unfold ry_n; omega)) hc (bz_fu hb (by omega)) hn hc0 hO (by omega) (by omega) (by omega) (by omega) (by omega) (by omega) b5 (by omega) (by omega) (fun d j h => wq_up_cell (by omega)) (rm_fr_up (rm_fr_refl _) (by decide) (by decide)) (fun d j _ => rfl) (fun H J nm e1 e2 e3 e4 _ _ hnm => ⟨2, e1, e3, e2.trans e4.symm, by rw [e4]; decide, rfl⟩)) fun r K h => C_O h (by omega) (by omega)
theorem op_false {R : dk_Rt} {D : Nat} (hM : tk_M T n M) (hr : ry T n M i ls t w nw np W L P F) (hc : cy T n G0 c0 O i cs s ns np N Q G) (hb : bz N off voff ph cx c np F ls G cs) (hn : 10000 < nn) (hc0 : c0.length ≤ 1400) (hO : O ≤ 20000) (hB : bnd i w s nw ns np t (hg c) W L P Q N) (hk : tk_k T n i = 4 ∧ tk_V T n (tk_pos T n i) = 7) : wok (dk_150 R nn G D) (fun r K => O_ok nn T n M G0 c0 O N off voff ph cx cb F G i ls cs w s nw ns np c t W L P Q (dk_238 F) 6200 r K) := by
  have h57 : G 57 4 = 16 := hc.1.2.1.1.trans ((tk_ty_word (by decide)).mpr hk)
  obtain ⟨b1, b2, b3, b4, b5, b6, b7, b8, b9, b10, b11, b12⟩ := hB
  rw [rd_false hM hr.1 hk]
  unfold dk_150
  refine wok_l (wok_f (by omega) (wok_f (by omega) (wok_t h57 (wok_f (by omega) ?_))))
  refine wok_m (o_const (cb := cb) (o := 2) (a := 0) hM (ry_up hr (by unfold ry_n; omega)) hc (bz_fu hb (by omega)) hn hc0 hO (by omega) (by omega) (by omega) (by omega) (by omega) (by omega) b5 (by omega) (by omega) (fun d j h => wq_up_cell (by omega)) (rm_fr_up (rm_fr_refl _) (by decide) (by decide)) (fun d j _ => rfl) (fun H J nm e1 e2 e3 e4 _ _ hnm => ⟨2, e1, e3, e2.trans e4.symm, by rw [e4]; decide, rfl⟩)) fun r K h => C_O h (by omega) (by omega)
end
