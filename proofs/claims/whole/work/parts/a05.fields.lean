/-! ===== a05: fields of a table (wip/whole2/lawa05.py) ===== -/
section
variable {nn : Nat} {T : Nat → Nat} {n M O : Nat} {G0 : wq_F} {c0 : List (List Nat)} {i t w s nw ns np N : Nat} {off voff ph : Nat → Nat} {cx : Nat → List Nat} {c cb : List Nat} {W : List (Nat × Nat × Nat × Nat)} {L : List (Nat × Nat)} {P Q : List (Nat × Nat × Nat)} {ls cs : List (List Nat)} {F G : wq_F}

/-- a comma or semicolon -/
def tk_part (T : Nat → Nat) (n i : Nat) : Prop := (tk_k T n i = 5 ∧ tk_V T n (tk_pos T n i) = 44) ∨ (tk_k T n i = 5 ∧ tk_V T n (tk_pos T n i) = 59)
theorem pm_part (hM : tk_M T n M) (hr : ry T n M i ls t w nw np W L P F) : (tk_part T n i ∧ dk_250 F = some (1, F)) ∨ (¬ tk_part T n i ∧ dk_250 F = some (0, F)) := by
  have e : dk_250 F = if tk_k T n i = 5 ∧ tk_V T n (tk_pos T n i) = 44 then some (1, F) else if tk_k T n i = 5 ∧ tk_V T n (tk_pos T n i) = 59 then some (1, F) else some (0, F) := by
    unfold dk_250
    rw [pm_isSign hM hr.1 (by decide), od_bS]
    dsimp only
    rw [if_ck, pm_isSign hM hr.1 (by decide), od_bS]
    dsimp only
    rw [if_ck]
  unfold tk_part
  by_cases q1 : tk_k T n i = 5 ∧ tk_V T n (tk_pos T n i) = 44
  · rw [if_pos q1] at e
    exact Or.inl ⟨Or.inl q1, e⟩
  · rw [if_neg q1] at e
    by_cases q2 : tk_k T n i = 5 ∧ tk_V T n (tk_pos T n i) = 59
    · rw [if_pos q2] at e
      exact Or.inl ⟨Or.inr q2, e⟩
    · rw [if_neg q2] at e
      exact Or.inr ⟨fun z => z.elim q1 q2, e⟩
/-- what stands behind a field: taken when it parts fields, on both sides; or refused -/
theorem bt_sep {B : Nat} (hM : tk_M T n M) (hr : ry T n M i ls t w nw np W L P F) (hc : cy T n G0 c0 O i cs s ns np N Q G) (hb : bz N off voff ph cx c np F ls G cs) (hn : 10000 < nn) (hc0 : c0.length ≤ 1400) (hO : O ≤ 20000) (hs : s ≤ B) (hns : ns ≤ 10000) (hnf : np ≤ 50) (hQ : Q.length ≤ 440) :
    wok (dk_152 nn G) (fun _ K => (tk_part T n i ∧ i < M ∧ dk_212 F = some (1, wq_up F 0 25 (i + 1)) ∧ ∃ ms, cy T n G0 c0 O (i + 1) ms s ns np N Q K ∧ bz N off voff ph cx c np F ls K ms ∧ px_fr G K ∧ st_pre cs ms) ∨ (tk_part T n i ∧ dk_212 F = some (0, pm_f F 3 (tk_pos T n i)) ∧ sx T n G0 c0 O 3 (tk_pos T n i) N B K) ∨ (¬ tk_part T n i ∧ (tk_k T n i = 5 ∧ tk_V T n (tk_pos T n i) = 125) ∧ K = G) ∨ (¬ tk_part T n i ∧ ¬ (tk_k T n i = 5 ∧ tk_V T n (tk_pos T n i) = 125) ∧ dk_211 F = some (0, pm_f F (tk_wr T n i) (tk_pos T n i)) ∧ sx T n G0 c0 O (tk_wr T n i) (tk_pos T n i) N B K)) := by
  have h57 : G 57 4 = tk_ty T n (tk_pos T n i) := hc.1.2.1.1
  have s44 := tk_ty_sign (T := T) (n := n) (p := tk_pos T n i) (c := 44) (by decide)
  have s59 := tk_ty_sign (T := T) (n := n) (p := tk_pos T n i) (c := 59) (by decide)
  have s125 := tk_ty_sign (T := T) (n := n) (p := tk_pos T n i) (c := 125) (by decide)
  have part : tk_part T n i → wok ((dk_77 nn G).bind fun y => some (0, y.2)) (fun _ K => (tk_part T n i ∧ i < M ∧ dk_212 F = some (1, wq_up F 0 25 (i + 1)) ∧ ∃ ms, cy T n G0 c0 O (i + 1) ms s ns np N Q K ∧ bz N off voff ph cx c np F ls K ms ∧ px_fr G K ∧ st_pre cs ms) ∨ (tk_part T n i ∧ dk_212 F = some (0, pm_f F 3 (tk_pos T n i)) ∧ sx T n G0 c0 O 3 (tk_pos T n i) N B K) ∨ (¬ tk_part T n i ∧ (tk_k T n i = 5 ∧ tk_V T n (tk_pos T n i) = 125) ∧ K = G) ∨ (¬ tk_part T n i ∧ ¬ (tk_k T n i = 5 ∧ tk_V T n (tk_pos T n i) = 125) ∧ dk_211 F = some (0, pm_f F (tk_wr T n i) (tk_pos T n i)) ∧ sx T n G0 c0 O (tk_wr T n i) (tk_pos T n i) N B K)) := fun hp => by
    refine wok_b (bt_77 (B := B) hM hr hc hb (by unfold tk_part at hp; omega) (by unfold tk_part at hp; omega) (by omega) hc0 hO hs hns hnf hQ) fun r K h => wok_r ?_
    rcases h with ⟨a1, a2, a3⟩ | ⟨a1, a2⟩
    · exact Or.inl ⟨hp, a1, a2, a3⟩
    · exact Or.inr (Or.inl ⟨hp, a1, a2⟩)
  unfold dk_152
  by_cases q1 : tk_k T n i = 5 ∧ tk_V T n (tk_pos T n i) = 44
  · exact wok_t (h57.trans (s44.mpr q1)) (part (Or.inl q1))
  refine wok_f (fun z => q1 (s44.mp (h57.symm.trans z))) ?_
  by_cases q2 : tk_k T n i = 5 ∧ tk_V T n (tk_pos T n i) = 59
  · exact wok_t (h57.trans (s59.mpr q2)) (part (Or.inr q2))
  refine wok_f (fun z => q2 (s59.mp (h57.symm.trans z))) ?_
  have np_ : ¬ tk_part T n i := fun z => z.elim q1 q2
  by_cases q3 : tk_k T n i = 5 ∧ tk_V T n (tk_pos T n i) = 125
  · exact wok_t (h57.trans (s125.mpr q3)) (wok_r (Or.inr (Or.inr (Or.inl ⟨np_, q3, rfl⟩))))
  refine wok_f (fun z => q3 (s125.mp (h57.symm.trans z))) ?_
  obtain ⟨w1, w2⟩ := bt_wr (B := B) hM hr hc hb hs hns hnf hQ
  exact wok_b w2 fun r K h => wok_r (Or.inr (Or.inr (Or.inr ⟨np_, q3, w1, h⟩)))
/-- a field with a key: written, and what parts it from the next -/
theorem keyed_sep {ln v2 pos m kx : Nat} {K0 : wq_F} (hM : tk_M T n M) (hr : ry T n M i ls (t + 1) w nw np ((17, ln, pos, m) :: W) L P F) (hc : cy T n G0 c0 O i cs (s + 1) ns np N Q G) (hb : bz N off voff ph cx (0 :: c) np F ls G cs) (hn : 10000 < nn) (hc0 : c0.length ≤ 1400) (hO : O ≤ 20000) (hi : cI G s 14 0 0 v2) (hq : qf s ns K0 G) (hkx : (kx = 0 ∧ v2 = ln) ∨ kx = 4) (hw : w ≤ 9100) (hs : s ≤ 6190) (hns : ns ≤ 10000) (hnp : np ≤ 50) (hQ : Q.length ≤ 440) (hW : W.length < 3900) (hm : m < 100) (ht : t < 100) :
    wok (dk_152 nn G) (fun _ K => (∃ i' ms H, (rm_to nn F H ∧ rm_fr F H) ∧ eg T n M G0 c0 O N off voff ph cx cb F K0 i ls cs w s nw ns np (0 :: kx :: 0 :: c) t ((15, pos, m + 1, 0) :: W) L P Q H K i' ls ms (w + 1) (s + 1) nw ns np (0 :: c) ∧ i' ≤ i + 1) ∨ ∃ e p, rm_out nn e p F ∧ sx T n G0 c0 O e p N 6200 K) := by
  have hp := ry_pop hr
  have h2 := ry_0 (j := 47) (v := t) hp (by decide)
  rw [if_pos rfl, if_neg (by decide), if_neg (by decide)] at h2
  have hw2 : wq_up (wq_up F 0 46 W.length) 0 47 t 0 41 = w := h2.2.1.2.1
  have hat := pm_em_at (F := wq_up (wq_up F 0 46 W.length) 0 47 t) (op := 27) (a := 0) (b := 0) (ln := ln)
  rw [hw2] at hat
  have h3 : ry T n M i ls t (w + 1) nw np ((15, pos, m + 1, 0) :: W) L P (pm_la (pm_em (wq_up (wq_up F 0 46 W.length) 0 47 t) 27 0 0 ln) 15 pos (m + 1) 0) := ry_la (ry_em h2)
  have f3 : rm_fr F (pm_la (pm_em (wq_up (wq_up F 0 46 W.length) 0 47 t) 27 0 0 ln) 15 pos (m + 1) 0) := rm_fr_la (rm_fr_em (rm_fr_up (rm_fr_up (rm_fr_refl _) (by decide) (by decide)) (by decide) (by decide)))
  have b3F : bzF F (pm_la (pm_em (wq_up (wq_up F 0 46 W.length) 0 47 t) 27 0 0 ln) 15 pos (m + 1) 0) := bzF_la (bzF_em (bzF_up (bzF_up (bzF_refl _) (by omega)) (by omega)))
  have x3 : ∀ d j, ¬ (20 ≤ d ∧ d ≤ 23 ∧ j = w) → 12 ≤ d ∧ d ≤ 24 → pm_la (pm_em (wq_up (wq_up F 0 46 W.length) 0 47 t) 27 0 0 ln) 15 pos (m + 1) 0 d j = F d j := fun d j q1 q2 => by
    rw [pm_la_ne (by omega) (by omega), pm_em_ne (by omega) (by omega), wq_up_cell (by omega), wq_up_cell (by omega)]
  have y3 : ∀ d, 20 ≤ d ∧ d ≤ 23 → pm_la (pm_em (wq_up (wq_up F 0 46 W.length) 0 47 t) 27 0 0 ln) 15 pos (m + 1) 0 d w = pm_em (wq_up (wq_up F 0 46 W.length) 0 47 t) 27 0 0 ln d w := fun d q => pm_la_ne (by omega) (by omega)
  have y20 := (y3 20 (by decide)).trans hat.1
  have y23 := (y3 23 (by decide)).trans hat.2.2.2.1
  have hg1 := fun H => ry_go (nn := nn) (H := H) hr (by show W.length < 4000; omega)
  have hb1 := fun k p => ry_ba (nn := nn) (k := k) (p := p) hr (by show W.length < 4000; omega)
  have hd : dk_32 nn (wq_up F 0 46 W.length) (17, ln, pos, m).1 (17, ln, pos, m).2.1 (17, ln, pos, m).2.2.1 (17, ln, pos, m).2.2.2 = (dk_250 (pm_la (pm_em (wq_up (wq_up F 0 46 W.length) 0 47 t) 27 0 0 ln) 15 pos (m + 1) 0)).bind fun y15 => if y15.1 = 0 then (dk_36 y15.2 125).bind fun y20 => if y20.1 = 0 then (dk_211 y20.2).bind fun y25 => if y25.1 = 0 then some (0, y25.2) else some (1, y25.2) else some (1, y20.2) else dk_212 y15.2 := by
    show dk_32 nn (wq_up F 0 46 W.length) 17 ln pos m = _
    rw [dk32_17, od_bI]
    unfold dk_251
    rw [hp.2.1.1, od_letS, show (t + 1 + (4294967296 - 1)) % 4294967296 = t by omega, od_upS, dkS_30 (by omega), od_bS]
    dsimp only
    rw [dkS_31 (by rw [pm_em_ne (by omega) (by omega), wq_up_at (by decide), hp.2.2.1.1]; omega), od_bS, Nat.mod_eq_of_lt (show m + 1 < 4294967296 by omega)]
    dsimp only
    simp only [od_bI]
  generalize pm_la (pm_em (wq_up (wq_up F 0 46 W.length) 0 47 t) 27 0 0 ln) 15 pos (m + 1) 0 = F3 at *
  have pjk : ∀ (A' B' : wq_F), (∀ d j, 12 ≤ d ∧ d ≤ 24 → A' d j = F3 d j) → qf (s + 1) ns G B' → pj ls cs (lvl N K0) (K0 62 (N - 1)) cb F K0 w s nw ns np (0 :: kx :: 0 :: c) A' B' (w + 1) (s + 1) nw ns np (0 :: c) [] [] := fun A' B' u1 u2 => by
    refine pj_1 ⟨by omega, by omega, by omega, by omega⟩ (fun d j q => (u1 d j (by omega)).trans (x3 d j (by omega) (by omega))) (fun d j q => (u2 d j (by omega)).trans (hq d j (by omega))) (fun H J nm ha2 hb2 _ => Or.inr ?_)
    have z1 : H 20 w = 27 := by rw [ha2.1 20 w (by decide) (by decide) (by omega) (by omega), u1 20 w (by decide)]; exact y20
    have z2 : J 12 s = 14 := by rw [hb2.1 12 s (by decide) (by decide) (by omega) (by omega), u2 12 s (by omega)]; exact hi.1
    rcases hkx with ⟨e1, e2⟩ | e1
    · rw [e1]
      refine ⟨1, z1, z2, ?_, c, rfl, rfl⟩
      rw [ha2.1 23 w (by decide) (by decide) (by omega) (by omega), u1 23 w (by decide), y23, hb2.1 15 s (by decide) (by decide) (by omega) (by omega), u2 15 s (by omega), hi.2.2.2, e2]
    · rw [e1]
      exact ⟨23, z1, z2, c, rfl, rfl⟩
  have fr : ∀ B' : wq_F, qf (s + 1) ns G B' → lk N off K0 B' := fun B' u => ⟨fun l _ => ⟨(u 62 l (by omega)).trans (hq 62 l (by omega)), (u 65 l (by omega)).trans (hq 65 l (by omega))⟩, fun l _ e6 h6 => (u e6 l (by omega)).trans (hq e6 l (by omega))⟩
  refine wok_m (bt_sep (B := 6200) hM h3 hc (bz_F hb b3F) hn hc0 hO (by omega) hns hnp hQ) fun r K h => ?_
  rcases pm_part hM h3 with ⟨q, e⟩ | ⟨q, e⟩
  · rw [e, od_bS] at hd
    dsimp only at hd
    rw [if_neg (by decide)] at hd
    rcases h with ⟨_, iM, e2, ms, c2, b2, f2, p2⟩ | ⟨_, e2, hx⟩ | ⟨z, _⟩ | ⟨z, _⟩
    · have hr5 := ry_nx h3 iM
      exact Or.inl ⟨i + 1, ms, _, hg1 _ (rgo_i (hd.trans e2) (by decide) hr5.1.1 (rm_fr_up f3 (by decide) (by decide))), ⟨hr5, c2, bz_fu b2 (by omega), by
        have z := pjk (wq_up F3 0 25 (i + 1)) K (fun d j q => wq_up_cell (by omega)) (qf_fr f2)
        exact ⟨z.1, z.2.1, z.2.2.1, z.2.2.2.1, fun H J nm X wb sb a1 a2 a3 a4 a5 a6 => z.2.2.2.2 H J nm X wb sb a1 a2 (nmr_up a3 (st_pre_refl _) p2) a4 a5 a6⟩, ⟨st_sf_refl _, p2, fr K (qf_fr f2)⟩, Nat.le_succ _, hnp⟩, Nat.le_refl _⟩
    · exact Or.inr ⟨3, _, hb1 _ _ (rba_f (hd.trans e2) f3 (by rw [h3.2.1.2.1]; omega)), hx⟩
    · exact absurd q z
    · exact absurd q z
  · rw [e, od_bS] at hd
    dsimp only at hd
    rw [if_pos rfl, pm_isSign hM h3.1 (by decide), od_bS] at hd
    dsimp only at hd
    rw [if_ck] at hd
    rcases h with ⟨z, _⟩ | ⟨z, _⟩ | ⟨_, q2, e2⟩ | ⟨_, q2, e2, hx⟩
    · exact absurd z q
    · exact absurd z q
    · rw [if_pos q2] at hd
      rw [e2]
      exact Or.inl ⟨i, cs, F3, hg1 _ (rgo_i hd (by decide) h3.1.1 f3), ⟨h3, hc, bz_F hb b3F, pjk F3 G (fun _ _ _ => rfl) (qf_refl _), ⟨st_sf_refl _, st_pre_refl _, fr G (qf_refl _)⟩, Nat.le_refl _, hnp⟩, Nat.le_succ _⟩
    · rw [if_neg q2, e2, od_bS] at hd
      exact Or.inr ⟨_, _, hb1 _ _ (rba_f (hd.trans (if_pos rfl)) f3 (by rw [h3.2.1.2.1]; omega)), hx⟩
end
