/-! ===== 99t: an expression begins (wip/whole2/law99t.py) ===== -/
section
variable {nn : Nat} {T : Nat → Nat} {n M O : Nat} {G0 : wq_F} {c0 : List (List Nat)} {i t w s nw ns np N : Nat} {off voff ph : Nat → Nat} {cx : Nat → List Nat} {c cb : List Nat} {W : List (Nat × Nat × Nat × Nat)} {L : List (Nat × Nat)} {P Q : List (Nat × Nat × Nat)} {ls cs : List (List Nat)} {F G : wq_F}

/-- the reference's state under an expression: the nest one more, two waits more -/
def rE_m (F : wq_F) (t a : Nat) : wq_F := pm_la (pm_la (wq_up F 0 47 (t + 1)) 1 0 0 0) 4 a 0 0
theorem rE_mr {a : Nat} (hr : ry T n M i ls t w nw np W L P F) : ry T n M i ls (t + 1) w nw np ((4, a, 0, 0) :: (1, 0, 0, 0) :: W) L P (rE_m F t a) := ry_la (ry_la (by
  have h := ry_0 (j := 47) (v := t + 1) hr (by decide)
  rw [if_pos rfl, if_neg (by decide), if_neg (by decide)] at h
  exact h))
theorem rE_mb {a : Nat} (hb : bz N off voff ph cx c np F ls G cs) : bz N off voff ph cx c np (rE_m F t a) ls G cs := bz_la (bz_la (bz_fu hb (by omega)))
theorem rE_mf {a : Nat} : rm_fr F (rE_m F t a) := rm_fr_la (rm_fr_la (rm_fr_up (rm_fr_refl F) (by decide) (by decide)))
theorem rE_mx {a c j : Nat} (hc : 12 ≤ c ∧ c ≤ 24) : rE_m F t a c j = F c j := by
  unfold rE_m
  rw [pm_la_ne (by omega) (by omega), pm_la_ne (by omega) (by omega), wq_up_cell (by omega)]
/-- no expression begins here -/
theorem rE_no {a : Nat} (hM : tk_M T n M) (hr : ry T n M i ls t w nw np W L P F) (h : tb_ex (tk_ty T n (tk_pos T n i)) = 0) : dk_236 F a = some (0, pm_f F (tk_wr T n i) (tk_pos T n i)) := by
  unfold dk_236
  rw [dkS_217 hM hr.1, od_bS]
  dsimp only
  rw [if_pos h, od_bI, pm_wrong hM hr.1]
/-- too deep -/
theorem rE_deep {a : Nat} (hM : tk_M T n M) (hr : ry T n M i ls t w nw np W L P F) (h : ¬ tb_ex (tk_ty T n (tk_pos T n i)) = 0) (ht : t = 20) : dk_236 F a = some (0, pm_f F 3 (tk_pos T n i)) := by
  have h47 := hr.2.1.1
  unfold dk_236
  rw [dkS_217 hM hr.1, od_bS]
  dsimp only
  rw [if_neg h]
  have e : dk_216 F = some (0, pm_f F 3 (tk_pos T n i)) := by
    unfold dk_216
    rw [if_pos (h47.trans ht), pm_here hM hr.1, od_bS]
    dsimp only
    rw [od_bI, pm_fail hr.1]
  rw [e, od_bS]
  dsimp only
  rw [if_pos rfl]
theorem rE_in {a : Nat} (hM : tk_M T n M) (hr : ry T n M i ls t w nw np W L P F) (h : ¬ tb_ex (tk_ty T n (tk_pos T n i)) = 0) (ht : t < 20) (hW : W.length < 3990) : dk_236 F a = if tk_k T n i = 4 ∧ tk_V T n (tk_pos T n i) = 14 then dk_236_73 (rE_m F t a) else if tk_k T n i = 5 ∧ tk_V T n (tk_pos T n i) = 35 then dk_236_73 (rE_m F t a) else if tk_k T n i = 5 ∧ tk_V T n (tk_pos T n i) = 45 then dk_236_73 (rE_m F t a) else if tk_k T n i = 5 ∧ tk_V T n (tk_pos T n i) = 126 then dk_236_73 (rE_m F t a) else dk_238 (rE_m F t a) := by
  have h47 := hr.2.1.1
  have h46 : F 0 46 = W.length := hr.2.2.1.1
  have e : dk_216 F = some (1, wq_up F 0 47 (t + 1)) := by
    unfold dk_216
    rw [if_neg (by omega), h47, Nat.mod_eq_of_lt (show t + 1 < 4294967296 by omega), od_upS]
  have hm : pm_at T n M i (rE_m F t a) ls := (rE_mr (a := a) hr).1
  have l1 : (wq_up F 0 47 (t + 1)) 0 46 = W.length := (wq_up_at (by decide)).trans h46
  unfold dk_236
  rw [dkS_217 hM hr.1, od_bS]
  dsimp only
  rw [if_neg h, e, od_bS]
  dsimp only
  rw [if_neg (by decide), dkS_31 (by omega), od_bS]
  dsimp only
  rw [dkS_31 (by rw [pm_la_at.2.2.2.2]; omega), od_bS]
  dsimp only
  show ((dk_34 (rE_m F t a) 14).bind _) = _
  rw [pm_isWord hM hm (by decide), od_bS]
  dsimp only
  rw [if_ck]
  by_cases q1 : tk_k T n i = 4 ∧ tk_V T n (tk_pos T n i) = 14
  · rw [if_pos q1, if_pos q1]
  rw [if_neg q1, if_neg q1, pm_isSign hM hm (by decide), od_bS]
  dsimp only
  rw [if_ck]
  by_cases q2 : tk_k T n i = 5 ∧ tk_V T n (tk_pos T n i) = 35
  · rw [if_pos q2, if_pos q2]
  rw [if_neg q2, if_neg q2, pm_isSign hM hm (by decide), od_bS]
  dsimp only
  rw [if_ck]
  by_cases q3 : tk_k T n i = 5 ∧ tk_V T n (tk_pos T n i) = 45
  · rw [if_pos q3, if_pos q3]
  rw [if_neg q3, if_neg q3, pm_isSign hM hm (by decide), od_bS]
  dsimp only
  rw [if_ck]
  by_cases q4 : tk_k T n i = 5 ∧ tk_V T n (tk_pos T n i) = 126
  · rw [if_pos q4, if_pos q4]
  rw [if_neg q4, if_neg q4, od_bI]
/-- an operator before its operand -/
def un_of (x : Nat) : Nat := if x = 0 then 25 else if x = 35 then 53 else if x = 45 then 50 else 51
theorem rE_un {x : Nat} (hM : tk_M T n M) (hr : ry T n M i ls t w nw np W L P F) (hW : W.length < 3990) (h : (x = 0 ∧ tk_k T n i = 4 ∧ tk_V T n (tk_pos T n i) = 14) ∨ ((x = 35 ∨ x = 45 ∨ x = 126) ∧ tk_k T n i = 5 ∧ tk_V T n (tk_pos T n i) = x)) : dk_236_73 F = dk_212 (pm_la (pm_la F 5 x (1 + lc T (tk_pos T n i)) 0) 3 12 0 0) := by
  have h46 : F 0 46 = W.length := hr.2.2.1.1
  have e : ∀ y z, dk_236_101 F y z = dk_212 (pm_la (pm_la F 5 z y 0) 3 12 0 0) := fun y z => by
    unfold dk_236_101
    rw [dkS_31 (by omega), od_bS]
    dsimp only
    rw [dkS_31 (by rw [pm_la_at.2.2.2.2]; omega), od_bS]
    dsimp only
    rw [od_bI]
  unfold dk_236_73
  rw [pm_line hM hr.1, od_bS]
  dsimp only
  rw [pm_isWord hM hr.1 (by decide), od_bS]
  dsimp only
  rw [if_ck]
  rcases h with ⟨e1, e2⟩ | ⟨e1, e2, e3⟩
  · rw [if_pos e2, e, e1]
  · rw [if_neg (by omega), od_g1 (pm_b hM hr.1), od_letS, e, tk_Vm hr.1 (Or.inr e2), e3, tb_l2i (by omega)]
/-- which it is -/
theorem un_kind {x : Nat} (h : (x = 0 ∧ tk_k T n i = 4 ∧ tk_V T n (tk_pos T n i) = 14) ∨ ((x = 35 ∨ x = 45 ∨ x = 126) ∧ tk_k T n i = 5 ∧ tk_V T n (tk_pos T n i) = x)) : tb_un (tk_ty T n (tk_pos T n i)) = un_of x ∧ ¬ un_of x = 4294967295 ∧ ¬ tb_ex (tk_ty T n (tk_pos T n i)) = 0 := by
  rcases h with ⟨e1, e2⟩ | ⟨e1, e2⟩
  · rw [(tk_ty_word (by decide)).mpr e2, e1]
    decide
  · have h3 : tk_ty T n (tk_pos T n i) = lx_sg x := (tk_ty_sign (by rcases e1 with e | e | e <;> (rw [e]; decide))).mpr e2
    rw [h3]
    rcases e1 with e | e | e <;> (rw [e]; decide)
/-- no operator stands here -/
theorem un_none (h1 : ¬ (tk_k T n i = 4 ∧ tk_V T n (tk_pos T n i) = 14)) (h2 : ¬ (tk_k T n i = 5 ∧ tk_V T n (tk_pos T n i) = 35)) (h3 : ¬ (tk_k T n i = 5 ∧ tk_V T n (tk_pos T n i) = 45)) (h4 : ¬ (tk_k T n i = 5 ∧ tk_V T n (tk_pos T n i) = 126)) : tb_un (tk_ty T n (tk_pos T n i)) = 4294967295 := by
  have a1 : ¬ tk_ty T n (tk_pos T n i) = 23 := fun z => h1 ((tk_ty_word (w := 14) (by decide)).mp z)
  have a2 : ¬ tk_ty T n (tk_pos T n i) = 50 := fun z => h2 ((tk_ty_sign (c := 35) (by decide)).mp z)
  have a3 : ¬ tk_ty T n (tk_pos T n i) = 41 := fun z => h3 ((tk_ty_sign (c := 45) (by decide)).mp z)
  have a4 : ¬ tk_ty T n (tk_pos T n i) = 46 := fun z => h4 ((tk_ty_sign (c := 126) (by decide)).mp z)
  unfold tb_un
  rw [if_neg a1, if_neg a3, if_neg a4, if_neg a2]
/-- the end of an expression: the nest one less -/
theorem rE_end {m : Nat} (hr : ry T n M i ls (m + 1) w nw np ((1, 0, 0, 0) :: W) L P F) (hm : m < 100) (hW : W.length < 3990) : ∃ H, (rm_to nn F H ∧ rm_fr F H) ∧ ry T n M i ls m w nw np W L P H ∧ (∀ c j, ¬ (c = 0 ∧ (j = 46 ∨ j = 47)) → H c j = F c j) := by
  have h1 := ry_pop hr
  have h2 := ry_0 (j := 47) (v := m) h1 (by decide)
  rw [if_pos rfl, if_neg (by decide), if_neg (by decide)] at h2
  refine ⟨_, ry_go hr (by omega) (rgo_i (r := 1) ?_ (by decide) h2.1.1 (rm_fr_up (rm_fr_up (rm_fr_refl _) (by decide) (by decide)) (by decide) (by decide))), h2, fun c j hc => ?_⟩
  · show dk_32 nn _ 1 0 0 0 = _
    rw [dk32_1, h1.2.1.1, od_letS, show (m + 1 + (4294967296 - 1)) % 4294967296 = m by omega, od_upS]
  · rw [wq_up_ne (by omega), wq_up_ne (by omega)]
end
