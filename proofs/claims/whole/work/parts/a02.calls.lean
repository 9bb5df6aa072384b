/-! ===== a02: a call (wip/whole2/lawa02.py) ===== -/
/-- a table at depth D, from within the reference's wait -/
def Tb_ok (nn : Nat) (T : Nat → Nat) (n M : Nat) (G0 : wq_F) (c0 : List (List Nat)) (O D : Nat) : Prop := ∀ (k i t w s nw ns np N : Nat) (off voff ph : Nat → Nat) (cx : Nat → List Nat) (c cb : List Nat) (W : List (Nat × Nat × Nat × Nat)) (L : List (Nat × Nat)) (P Q : List (Nat × Nat × Nat)) (ls cs : List (List Nat)) (F G : wq_F),
  20 * (22 - D) + 8 ≤ k → t = D → tk_k T n i = 5 ∧ tk_V T n (tk_pos T n i) = 123 → ry T n M i ls t w nw np W L P F → cy T n G0 c0 O i cs s ns np N Q G → bz N off voff ph cx c np F ls G cs → bnd i w s nw ns np t (hg c) W L P Q N → W.length ≤ 20 * t + 12 →
  wok (dk_R nn k 151 [D] G) (fun _ K => (∃ i' w' s' nw' ns' np' ls' cs' H, rgo nn F (dk_248 F) H ∧ eg T n M G0 c0 O N off voff ph cx cb F G i ls cs w s nw ns np c t W L P Q H K i' ls' cs' w' s' nw' ns' np' (0 :: c) ∧ rts (i + 1) w s nw ns i' w' s' nw' ns' ∧ H 0 64 = 4294967295) ∨ ∃ e p, rba nn F (dk_248 F) e p ∧ sx T n G0 c0 O e p N (zz D + 40) K)
/-- values of a row: so many, or any number -/
def row_a (a : List Nat) : Prop := (∀ e ∈ a, e = 0) ∨ ∃ d, a = 2 :: d ∧ ∀ e ∈ d, e = 0
theorem row_a_lt {a : List Nat} (h : row_a a) : ∀ e ∈ a, e < 5 := fun e he => by
  rcases h with h | ⟨d, rfl, h⟩
  · rw [h e he]; decide
  · rcases List.mem_cons.mp he with z | z
    · rw [z]; decide
    · rw [h e z]; decide
theorem row_a_0 {a : List Nat} (h : ∀ e ∈ a, e = 0) (v : Nat) : row_a (List.replicate v 0 ++ a) ∧ row_a (2 :: (List.replicate v 0 ++ a)) := by
  have z : ∀ e ∈ List.replicate v 0 ++ a, e = 0 := fun e he => by
    rcases List.mem_append.mp he with y | y
    · exact rep_lt y
    · exact h e y
  exact ⟨Or.inl z, Or.inr ⟨_, rfl, z⟩⟩
theorem wok_2 {m : Option (Nat × wq_F)} {f : Nat × wq_F → Option (Nat × wq_F)} {g : wq_F → Option (Nat × wq_F)} {A C : Nat → wq_F → Prop} (h : wok (m.bind fun y => (f y).bind fun z => some (0, z.2)) A) (hg : ∀ r K, A r K → wok (g K) C) : wok (m.bind fun y => (f y).bind fun z => g z.2) C := by
  obtain ⟨r, K, e, a⟩ := h
  cases hm : m with
  | none => rw [hm] at e; cases e
  | some y =>
    rw [hm, od_bS] at e
    cases hf : f y with
    | none => rw [hf] at e; cases e
    | some z =>
      rw [hf, od_bS] at e
      cases e
      rw [od_bS, hf, od_bS]
      exact hg _ _ a
section
variable {nn : Nat} {T : Nat → Nat} {n M O : Nat} {G0 : wq_F} {c0 : List (List Nat)} {i t w s nw ns np N : Nat} {off voff ph : Nat → Nat} {cx : Nat → List Nat} {c cb : List Nat} {W : List (Nat × Nat × Nat × Nat)} {L : List (Nat × Nat)} {P Q : List (Nat × Nat × Nat)} {ls cs : List (List Nat)} {F G : wq_F}

/-- what is given stands: the call -/
theorem call_step {R : dk_Rt} {ln : Nat} {a : List Nat} (hr : ry T n M i ls t w nw np ((13, ln, 0, 0) :: W) L P F) (hc : cy T n G0 c0 O i cs s ns np N Q G) (hb : bz N off voff ph cx (a ++ 1 :: 0 :: c) np F ls G cs) (ha : row_a a) (hw : w < 13990) (hs : s < 9990) (hW : W.length < 3990) (hh : hg c < 100000) (hnp : np ≤ 50) :
    wok (dk_139_93 R nn G (hg c) ln) (fun _ K => ∃ H, (rm_to nn F H ∧ rm_fr F H) ∧ eg T n M G0 c0 O N off voff ph cx cb F G i ls cs w s nw ns np (a ++ 1 :: 0 :: c) t W L P Q H K i ls cs (w + 1) (s + 1) nw ns np (0 :: c) ∧ H 0 61 = 4 ∧ H 0 62 = w ∧ K 56 7 = 4294967294 ∧ cal cb N F G w s nw ns np (a ++ 1 :: 0 :: c) H K ls cs (w + 1) (s + 1) nw ns np 4294967295 (2 :: c) ∧ cal cb N F G w s nw ns np (a ++ 1 :: 0 :: c) H K ls cs (w + 1) (s + 1) nw ns np 0 c) := by
  have h1 := ry_pop hr
  have hN := hb.1.1.1
  have hw1 : wq_up F 0 46 W.length 0 41 = w := h1.2.1.2.1
  have e1 : dk_32 nn (wq_up F 0 46 W.length) 13 ln 0 0 = some (1, wq_up (wq_up (pm_em (wq_up F 0 46 W.length) 16 1 0 ln) 0 62 w) 0 61 4) := by
    rw [dk32_13]
    unfold dk_276
    rw [dkS_30 (by omega), od_bS]
    dsimp only
    rw [hw1, od_upS, od_upS, od_bS]
  have h2 : ry T n M i ls t (w + 1) nw np W L P (wq_up (wq_up (pm_em (wq_up F 0 46 W.length) 16 1 0 ln) 0 62 w) 0 61 4) := ry_up (ry_up (ry_em h1) (by unfold ry_n; omega)) (by unfold ry_n; omega)
  have hat := pm_em_at (F := wq_up F 0 46 W.length) (op := 16) (a := 1) (b := 0) (ln := ln)
  rw [hw1] at hat
  have hgo := ry_go (nn := nn) hr (by show W.length < 4000; omega) (rgo_i e1 (by decide) h2.1.1 (rm_fr_up (rm_fr_up (rm_fr_em (rm_fr_up (rm_fr_refl _) (by decide) (by decide))) (by decide) (by decide)) (by decide) (by decide)))
  have fc : ∀ d j, ¬ d = 0 → wq_up (wq_up (pm_em (wq_up F 0 46 W.length) 16 1 0 ln) 0 62 w) 0 61 4 d j = pm_em (wq_up F 0 46 W.length) 16 1 0 ln d j := fun d j q => by
    rw [wq_up_cell q, wq_up_cell q]
  have fm : ∀ d j, ¬ (20 ≤ d ∧ d ≤ 23 ∧ j = w) → ¬ d = 0 → wq_up (wq_up (pm_em (wq_up F 0 46 W.length) 16 1 0 ln) 0 62 w) 0 61 4 d j = F d j := fun d j h3 h4 => by
    rw [fc d j h4, pm_em_ne (by omega) (by omega), wq_up_cell (by omega)]
  have hbF : bzF F (wq_up (wq_up (pm_em (wq_up F 0 46 W.length) 16 1 0 ln) 0 62 w) 0 61 4) := bzF_up (bzF_up (bzF_em (bzF_up (bzF_refl _) (by omega))) (by omega)) (by omega)
  have h61 : wq_up (wq_up (pm_em (wq_up F 0 46 W.length) 16 1 0 ln) 0 62 w) 0 61 4 0 61 = 4 := wq_up_same _ _ _ _
  have h62 : wq_up (wq_up (pm_em (wq_up F 0 46 W.length) 16 1 0 ln) 0 62 w) 0 61 4 0 62 = w := by rw [wq_up_at (by decide), wq_up_same]
  have at20 := (fc 20 w (by decide)).trans hat.1
  have at21 := (fc 21 w (by decide)).trans hat.2.1
  have at23 := (fc 23 w (by decide)).trans hat.2.2.2.1
  generalize wq_up (wq_up (pm_em (wq_up F 0 46 W.length) 16 1 0 ln) 0 62 w) 0 61 4 = H1 at *
  have lt5 : ∀ e ∈ a ++ [1, 0], e < 5 := fun e he => by
    rcases List.mem_append.mp he with z | z
    · exact row_a_lt ha e z
    · rcases List.mem_cons.mp z with y | y
      · omega
      · have := List.mem_singleton.mp y
        omega
  have spl : a ++ 1 :: 0 :: c = (a ++ [1, 0]) ++ c := by rw [List.append_assoc]; rfl
  have hatg : ∀ p s, cx_at (a ++ 1 :: 0 :: c) p s → cx_at (0 :: c) p s := fun p s h => by
    rw [spl] at h
    exact cx_at_c (cx_at_dn lt5 h)
  unfold dk_139_93
  refine wok_b (cy_78 hc hb (by omega) (okj_p (by decide))) fun r K1 hK => ?_
  dsimp only
  obtain ⟨er, k1, k2, k3, k4, k5⟩ := hK
  rw [Nat.mod_eq_of_lt (show hg c + 1 < 4294967296 by omega)]
  refine wok_b (cy_162 (d := 0 :: c) k1 k2 hg_0.symm (fun k _ _ h => hatg _ _ h) (fun e he => by
    rcases List.mem_cons.mp he with z | z
    · omega
    · exact bz_cd k2 (a := a ++ [1, 0]) spl e z)) fun r K2 hK => ?_
  dsimp only
  obtain ⟨l1, l2, l3, l4⟩ := hK
  have q2 : qf s ns G K2 := qf_trans k4 l3 (by omega) (Nat.le_refl _)
  have i2 : cI K2 s 19 (hg c) 1 ln := ⟨(l3 12 s (by omega)).trans k3.1, (l3 13 s (by omega)).trans k3.2.1, (l3 14 s (by omega)).trans k3.2.2.1, (l3 15 s (by omega)).trans k3.2.2.2⟩
  have q3 : ∀ d j, ¬ d = 56 → wq_up K2 56 7 4294967294 d j = K2 d j := fun d j q => wq_up_cell q
  have pjw : ∀ (A' B' : wq_F) (x : Nat) (d : List Nat), (∀ d j, ¬ (d = 21 ∧ j = w) → A' d j = H1 d j) → A' 21 w = x → (∀ d j, ¬ (d = 14 ∧ j = s) → B' d j = wq_up K2 56 7 4294967294 d j) → B' 14 s = x → ((x = 0 ∧ d = c) ∨ (x = 1 ∧ d = 0 :: c) ∨ (x = 4294967295 ∧ d = 2 :: c)) → pj ls cs (lvl N G) (G 62 (N - 1)) cb F G w s nw ns np (a ++ 1 :: 0 :: c) A' B' (w + 1) (s + 1) nw ns np d [] [] := fun A' B' x d u1 u2 u3 u4 u5 => by
    refine pj_1 ⟨by omega, by omega, by omega, by omega⟩ (fun d j h => (u1 d j (by omega)).trans (fm d j (by omega) (by omega))) (fun d j h => (u3 d j (by omega)).trans ((q3 d j (by omega)).trans (q2 d j (by omega)))) (fun H J nm ha2 hb2 _ => Or.inl ⟨15, ?_, ?_, ?_, a, c, rfl, ha, ?_, ?_⟩)
    · rw [ha2.1 20 w (by decide) (by decide) (by omega) (by omega), u1 20 w (by omega)]; exact at20
    · rw [hb2.1 12 s (by decide) (by decide) (by omega) (by omega), u3 12 s (by omega)]; exact i2.1
    · rw [ha2.1 23 w (by decide) (by decide) (by omega) (by omega), u1 23 w (by omega), at23, hb2.1 15 s (by decide) (by decide) (by omega) (by omega), u3 15 s (by omega)]; exact i2.2.2.2.symm
    · rw [hb2.1 13 s (by decide) (by decide) (by omega) (by omega), u3 13 s (by omega)]; exact i2.2.1
    · have y1 : H 21 w = x := (ha2.1 21 w (by decide) (by decide) (by omega) (by omega)).trans u2
      have y2 : J 14 s = x := (hb2.1 14 s (by decide) (by decide) (by omega) (by omega)).trans u4
      rw [y1, y2]
      rcases u5 with ⟨z1, z2⟩ | ⟨z1, z2⟩ | ⟨z1, z2⟩
      · exact Or.inl ⟨z1, z1, by rw [z2]⟩
      · exact Or.inr (Or.inl ⟨z1, z1, by rw [z2]⟩)
      · exact Or.inr (Or.inr ⟨z1, z1, by rw [z2]⟩)
  have i14 : wq_up K2 56 7 4294967294 14 s = 1 := (q3 14 s (by decide)).trans i2.2.2.1
  have cl : ∀ x d, ((x = 0 ∧ d = c) ∨ (x = 1 ∧ d = 0 :: c) ∨ (x = 4294967295 ∧ d = 2 :: c)) → cal cb N F G w s nw ns np (a ++ 1 :: 0 :: c) H1 (wq_up K2 56 7 4294967294) ls cs (w + 1) (s + 1) nw ns np x d := fun x d u => by
    unfold cal
    rw [Nat.add_sub_cancel, Nat.add_sub_cancel]
    exact pjw _ _ x d (fun d j q => wq_up_ne q) (wq_up_same _ _ _ _) (fun d j q => wq_up_ne q) (wq_up_same _ _ _ _) u
  refine wok_u (wok_r ⟨H1, hgo, ⟨h2, cy_up l1 (by unfold cy_n; omega), bz_F (bz_gu l2 (by omega)) hbF, pjw H1 _ 1 (0 :: c) (fun _ _ _ => rfl) at21 (fun _ _ _ => rfl) i14 (Or.inr (Or.inl ⟨rfl, rfl⟩)), ⟨st_sf_refl _, st_pre_refl _, ⟨fun l _ => ⟨(q3 62 l (by decide)).trans (q2 62 l (by omega)), (q3 65 l (by decide)).trans (q2 65 l (by omega))⟩, fun l _ e6 h6 => (q3 e6 l (by omega)).trans (q2 e6 l (by omega))⟩⟩, Nat.le_refl _, hnp⟩, h61, h62, wq_up_same _ _ _ _, cl _ _ (Or.inr (Or.inr ⟨rfl, rfl⟩)), cl _ _ (Or.inl ⟨rfl, rfl⟩)⟩)
end
