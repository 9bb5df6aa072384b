/-! ===== a74: the whole text: from its first token to its end (wip/whole2/lawa74.py) ===== -/
theorem dk32_42b {nn x y z : Nat} {F : wq_F} : dk_32 nn F 42 x y z = od_g (F 0 25 < 1502) (if F 9 (F 0 25) = 6 then some (1, F) else (dk_211 F).bind fun y133 => if y133.1 = 0 then some (0, y133.2) else some (1, y133.2)) := by
  unfold dk_32
  rw [if_neg (by decide), if_neg (by decide), if_neg (by decide), if_neg (by decide), if_neg (by decide), if_neg (by decide), if_neg (by decide), if_neg (by decide), if_neg (by decide), if_neg (by decide), if_neg (by decide), if_neg (by decide), if_neg (by decide), if_neg (by decide), if_neg (by decide), if_neg (by decide), if_neg (by decide), if_neg (by decide), if_neg (by decide), if_neg (by decide), if_neg (by decide), od_bI]
  unfold dk_37
  rw [if_neg (by decide), if_neg (by decide), if_neg (by decide), if_neg (by decide), if_neg (by decide), if_neg (by decide), if_neg (by decide), if_neg (by decide), if_neg (by decide), if_neg (by decide), if_neg (by decide), if_neg (by decide), if_neg (by decide), if_neg (by decide), if_neg (by decide), if_neg (by decide), if_neg (by decide), if_neg (by decide), if_neg (by decide), if_neg (by decide), if_neg (by decide)]
/-- the reference, from the first word of its code on; its loop with a fuel of its own -/
def rf_29 (nn g : Nat) (F : wq_F) : Option (Nat × wq_F) := (dk_30 F 0 0 0 0).bind fun y63 => (dk_31 y63.2 42 0 0 0).bind fun y67 => (dk_31 y67.2 0 0 0 0).bind fun y71 => dk_29_134 nn g y71.2 1
/-- the class, from there on -/
def cf_76 (nn : Nat) (G : wq_F) : Option (Nat × wq_F) := (dk_78 G 0 0 0 0).bind fun y47 => (dk_R nn nn 80 [1] y47.2).bind fun y51 => if (y51.2 57 4) = 0 then dk_76_114 nn y51.2 else (dk_109 y51.2 2).bind fun y56 => dk_76_114 nn y56.2
section
variable {nn : Nat} {T : Nat → Nat} {n M O : Nat} {G0 : wq_F} {c0 : List (List Nat)} {i t w s nw ns np N : Nat} {off voff ph : Nat → Nat} {cx : Nat → List Nat} {c cb : List Nat} {W : List (Nat × Nat × Nat × Nat)} {L : List (Nat × Nat)} {P Q : List (Nat × Nat × Nat)} {ls cs : List (List Nat)} {F G : wq_F}

theorem sx_76e {e p B : Nat} (h : sx T n G0 c0 O e p N B G) (hB : B < 10000) : wok (dk_76_114 nn G) (fun r K => r = e ∧ sx T n G0 c0 O e p N (B + 1) K) := by
  unfold dk_76_114
  refine wok_b (sx_84 h) fun r1 K1 h1 => ?_
  dsimp only
  refine wok_b (sx_78 h1 hB (okj_p (by decide))) fun r2 K2 h2 => ?_
  dsimp only
  exact wok_r ⟨h2.2.1.2.1, h2.2⟩
/-- both read the whole text alike: the code of both belongs together, or both tell the same fault -/
theorem text_ok (hM : tk_M T n M) (hn : 10000 < nn) (hc0 : c0.length ≤ 1400) (hO : O ≤ 20000) (hn2 : 14000 < nn) (hr : ry T n M 0 ls 0 0 0 1 [] [] [] F) (hc : cy T n G0 c0 O 0 cs 0 0 1 1 [] G) (hb : bz 1 off voff ph cx [] 1 F ls G cs) (h65 : G 65 0 = 4294967294) :
    wok (cf_76 nn G) (fun r K => (∃ i' w' s' nw' ns' np' ls' cs' H c' off' voff' ph', (∃ k, ∀ g, rf_29 nn (g + k) F = some (1, rm_z H)) ∧ (ry T n M i' ls' 0 w' nw' np' [] [] [] H ∧ cy T n G0 c0 O i' cs' (s' + 1) ns' np' 1 [] K ∧ bz 1 off' voff' ph' cx c' np' H ls' K cs') ∧ tk_k T n i' = 6 ∧ (st_sf ls ls' ∧ st_pre cs cs' ∧ rm_fr F H) ∧ (w' ≤ 6 * i' + 1 ∧ s' ≤ 4 * i' + 1 ∧ nw' ≤ i' ∧ ns' ≤ i' ∧ np' ≤ 50 ∧ hg c' ≤ 2 * i') ∧ r = 0 ∧ K 62 0 = G 62 0 ∧ ∀ (nm : Nat → Nat → Prop) (X : pt → Prop), nmr ls' cs' nm → sg (rm_z H) K nm X (G 62 0, 0, 0, [])) ∨
      ∃ e p, r = e ∧ (∃ k H, (∀ g, rf_29 nn (g + k) F = some (0, H)) ∧ H 0 4 = e ∧ H 0 5 = p ∧ rm_fr F H) ∧ sx T n G0 c0 O e p 1 9000 K) := by
  have hM1 := hM.1
  have hz : zz 1 = 8510 := by unfold zz; omega
  have hw : F 0 41 = 0 := hr.2.1.2.1
  have h46 : F 0 46 = 0 := hr.2.2.1.1
  have h62 := hb.2.2.2.2.2.1
  unfold cf_76
  refine wok_b (e_step (cb := []) (l := 0) (a := 0) (b := 0) hr hc hb (by decide) (by decide)) fun r1 K1 h1 => ?_
  dsimp only
  obtain ⟨_, E1, _, _⟩ := h1
  have e2 := e_la (cb := []) (x1 := 42) (x2 := 0) (x3 := 0) (x4 := 0) E1.1 E1.2.1 E1.2.2.1 (by decide)
  have e3 := e_la (cb := []) (x1 := 0) (x2 := 0) (x3 := 0) (x4 := 0) e2.1 e2.2.1 e2.2.2.1 (by decide)
  have E3 := eg_t E1 (eg_t e2 e3 E1.2.2.1.2.2.2.2.2.1) h62
  have ff3 : rm_fr F (pm_la (pm_la (pm_em F 0 0 0 0) 42 0 0 0) 0 0 0 0) := rm_fr_la (rm_fr_la (rm_fr_em (rm_fr_refl _)))
  have hRF : ∀ g, rf_29 nn g F = dk_29_134 nn g (pm_la (pm_la (pm_em F 0 0 0 0) 42 0 0 0) 0 0 0 0) 1 := fun g => by
    unfold rf_29
    rw [dkS_30 (by omega), od_bS]
    dsimp only
    rw [dkS_31 (by rw [E1.1.2.2.1.1]; decide), od_bS]
    dsimp only
    rw [dkS_31 (by rw [e2.1.2.2.1.1]; decide), od_bS]
  generalize pm_la (pm_la (pm_em F 0 0 0 0) 42 0 0 0) 0 0 0 0 = F3 at *
  have hbo : bo 1 [] F G 0 0 [] [] := ⟨fun e he => absurd he (List.not_mem_nil), Or.inr ⟨fun e he => absurd he (List.not_mem_nil), h65, rfl, rfl⟩⟩
  have G3 := ge_eg E3 hbo
  have bo3 := G3.2.2.2.2.2.2.2.1
  have hbk : Bk_ok nn T n M G0 c0 O 1 := all_ok hM hn hc0 hO hn2 1 (by decide)
  have hbad : ∀ {e p : Nat}, rm_out nn e p F3 → ∃ k H, (∀ g, rf_29 nn (g + k) F = some (0, H)) ∧ H 0 4 = e ∧ H 0 5 = p ∧ rm_fr F H := fun ⟨k, H, a1, a2, a3, a4⟩ => ⟨k, H, fun g => (hRF _).trans (a1 g), a2, a3, rm_fr_trans ff3 a4⟩
  refine wok_b (hbk nn 0 0 1 1 0 0 1 1 off voff ph cx [] [] [(42, 0, 0, 0)] [] [] [] ls cs F3 K1 [] [] (by omega) rfl E3.1 E3.2.1 E3.2.2.1 ⟨by decide, by decide, by decide, by decide, by decide, by decide, by decide, by decide, ⟨by decide, fun e he => absurd he (List.not_mem_nil)⟩, by decide, by decide, by decide⟩ (by decide) bo3 (fun ⟨v, L0, z⟩ => nomatch z) (fun a x b z => by have y := congrArg List.length z; rw [List.length_append, List.length_cons, List.length_nil] at y; omega)) fun r4 K4 h4 => ?_
  dsimp only
  rcases h4 with ⟨i4, w4, s4, nw4, ns4, np4, ls4, cs4, H4, c4, off4, voff4, ph4, L4, Jr, Jc, g4, ge4, lo4, ⟨u1, u2, u3, u4, u5⟩, hh4, _⟩ | ⟨e, p, ho, hx⟩
  rotate_left
  · -- stopped
    have hh := hbad ho
    rcases hx with hx | ⟨e2', y1, y2, y3⟩
    · have y5 : K4 57 4 = 5 := hx.1.1
      refine wok_f (by rw [y5]; decide) ?_
      refine wok_b (sx_109 hx) fun r5 K5 h5 => ?_
      dsimp only
      exact wok_m (sx_76e h5 (by omega)) fun r K h => Or.inr ⟨e, p, h.1, hh, sx_le h.2 (by omega)⟩
    · subst e2'
      refine wok_f (by rcases y1 with z | z <;> rw [z] <;> decide) ?_
      refine wok_b (sy_109 ⟨y1, y2, y3⟩) fun r5 K5 h5 => ?_
      dsimp only
      exact wok_m (sx_76e h5 (by omega)) fun r K h => Or.inr ⟨2, p, h.1, hh, sx_le h.2 (by omega)⟩
  -- the block is over
  have GE := ge_t G3 (ge4 : ge T n M G0 c0 O 1 cx [] F3 K1 0 ls cs 1 1 0 0 1 [] off voff ph [] ([] ++ []) ([] ++ []) 0 [(42, 0, 0, 0)] [] [] H4 K4 i4 ls4 cs4 w4 s4 nw4 ns4 np4 c4 off4 voff4 ph4 L4 Jr Jc) h62
  obtain ⟨r4', c4', b4', p4, ⟨sf4, pre4, gk4⟩, ⟨i40, n4⟩, v4, bo4, lt4⟩ := GE
  have i4M := r4'.1.2.2.1
  have hL4 : L4 = [] := by
    have z := lt2_len lt4
    cases L4 with
    | nil => rfl
    | cons a b => exact absurd z (by rw [List.length_cons, List.length_nil]; omega)
  subst hL4
  have hJr : Jr ++ [] = [] := by
    rcases bo4.2 with ⟨v, L0, z, _⟩ | ⟨_, _, z, _⟩
    · exact nomatch z
    · exact (List.append_nil _).symm.trans z
  have hJc : Jc ++ [] = [] := by
    rcases bo4.2 with ⟨v, L0, z, _⟩ | ⟨_, _, _, z⟩
    · exact nomatch z
    · exact (List.append_nil _).symm.trans z
  rw [hJr, hJc] at p4
  have hgo := fun H => ry_go (nn := nn) (H := H) r4' (by decide)
  have hba := fun k p => ry_ba (nn := nn) (k := k) (p := p) r4' (by decide)
  have hp : ry T n M i4 ls4 0 w4 nw4 np4 [] [] [] (wq_up H4 0 46 0) := ry_pop r4'
  have bp := bz_fu (d := 0) (j := 46) (v := 0) b4' (by omega)
  have fp : rm_fr H4 (wq_up H4 0 46 0) := rm_fr_up (rm_fr_refl _) (by decide) (by decide)
  have xp : ∀ d j, ¬ d = 0 → wq_up H4 0 46 0 d j = H4 d j := fun d j q => wq_up_cell q
  have h33 : dk_32 nn (wq_up H4 0 46 ([] : List (Nat × Nat × Nat × Nat)).length) (42, 0, 0, 0).1 (42, 0, 0, 0).2.1 (42, 0, 0, 0).2.2.1 (42, 0, 0, 0).2.2.2 = if tk_k T n i4 = 6 then some (1, wq_up H4 0 46 0) else (dk_211 (wq_up H4 0 46 0)).bind fun y133 => if y133.1 = 0 then some (0, y133.2) else some (1, y133.2) := by
    show dk_32 nn (wq_up H4 0 46 0) 42 0 0 0 = _
    rw [dk32_42b, od_g1 (pm_b hM hp.1), pm_kind hp.1]
  have h57 : K4 57 4 = tk_ty T n (tk_pos T n i4) := c4'.1.2.1.1
  have hk4 : tk_k T n i4 = tk_K T n (tk_pos T n i4) := rfl
  by_cases q6 : tk_k T n i4 = 6
  rotate_left
  · -- something stands behind it
    obtain ⟨a1, a2⟩ := bt_wr (B := 6200) hM hp c4' bp (by omega) (by omega) n4 (by decide)
    rw [if_neg q6, a1, od_bS] at h33
    dsimp only at h33
    rw [if_pos rfl] at h33
    have ho := hba _ _ (rba_f h33 fp (by rw [hp.2.1.2.1]; omega))
    have hh := hbad (rm_to_out g4.1 g4.2 ho)
    have hty : ¬ tk_ty T n (tk_pos T n i4) = 0 := by
      rcases tk_ty_all (T := T) (n := n) (p := tk_pos T n i4) with e | e | e | e | e | e | e <;> omega
    refine wok_f (by rw [h57]; exact hty) ?_
    refine wok_b a2 fun r5 K5 h5 => ?_
    dsimp only
    exact wok_m (sx_76e h5 (by omega)) fun r K h => Or.inr ⟨_, _, h.1, hh, sx_le h.2 (by omega)⟩
  -- the end
  rw [if_pos q6] at h33
  have h42 := hgo _ (rgo_i h33 (by decide) hp.1.1 fp)
  have hty : tk_ty T n (tk_pos T n i4) = 0 := by
    rcases tk_ty_all (T := T) (n := n) (p := tk_pos T n i4) with e | e | e | e | e | e | e <;> omega
  have w41 : wq_up H4 0 46 0 0 41 = w4 := hp.2.1.2.1
  obtain ⟨k5, hk5⟩ := rm_trans g4.1 h42.1
  have hdone : ∀ g, rf_29 nn (g + (1 + k5)) F = some (1, rm_z (wq_up H4 0 46 0)) := fun g => by
    rw [hRF, show g + (1 + k5) = (g + 1) + k5 by omega, hk5]
    exact rm_done (by omega) (wq_up_same _ _ _ _)
  have az1 := pm_em_at (F := wq_up H4 0 46 0) (op := 14) (a := 0) (b := 0) (ln := 0)
  have az2 := pm_em_at (F := pm_em (wq_up H4 0 46 0) 14 0 0 0) (op := 38) (a := 0) (b := 0) (ln := 0)
  have w42 : pm_em (wq_up H4 0 46 0) 14 0 0 0 0 41 = w4 + 1 := by rw [az1.2.2.2.2, w41]
  rw [w41] at az1
  rw [w42] at az2
  have z14 : rm_z (wq_up H4 0 46 0) 20 w4 = 14 := by
    unfold rm_z
    rw [pm_em_ne (by rw [w42]; omega) (by omega)]
    exact az1.1
  have z38 : rm_z (wq_up H4 0 46 0) 20 (w4 + 1) = 38 := az2.1
  have zx : ∀ d j, ¬ d = 0 → ¬ (20 ≤ d ∧ d ≤ 23 ∧ w4 ≤ j) → rm_z (wq_up H4 0 46 0) d j = H4 d j := fun d j q1 q2 => by
    unfold rm_z
    rw [pm_em_ne (by rw [w42]; omega) (by omega), pm_em_ne (by rw [w41]; omega) (by omega), xp d j q1]
  generalize wq_up H4 0 46 0 = Hp at *
  refine wok_t (by rw [h57]; exact hty) ?_
  unfold dk_76_114
  rw [cy_84 c4' bp, od_bS]
  dsimp only
  refine wok_b (cy_78 (op := 20) (a := hg c4) (b := 0) (ln := 0) c4' bp (by omega) (okj_p (by decide))) fun r6 K6 h6 => ?_
  dsimp only
  obtain ⟨_, c6, b6, ci6, q6', _⟩ := h6
  refine wok_r (Or.inl ⟨i4, w4, s4, nw4, ns4, np4, ls4, cs4, Hp, c4, off4, voff4, ph4, ⟨1 + k5, hdone⟩, ⟨hp, c6, b6⟩, q6, ⟨sf4, pre4, rm_fr_trans ff3 (rm_fr_trans g4.2 h42.2)⟩, ⟨by omega, by omega, by omega, by omega, n4, by rw [show hg ([] : List Nat) = 0 from rfl] at hh4; omega⟩, c6.1.1, ?_, fun nm X hnm => ?_⟩)
  · rw [q6' 62 0 (by omega)]
    exact gk4.1 0 (by decide)
  · obtain ⟨_, _, _, _, hsg⟩ := p4
    refine hsg (rm_z Hp) K6 nm X 0 0 ?_ ?_ hnm (fun j hj => absurd hj (List.not_mem_nil)) (fun z => absurd rfl z) ?_
    · rw [jl_nil]
      exact ⟨fun d j x1 x2 _ x4 => zx d j (by omega) (by omega), fun j _ _ => zx 24 j (by decide) (by omega), fun g _ _ => ⟨⟨zx 12 g (by decide) (by omega), zx 13 g (by decide) (by omega), zx 15 g (by decide) (by omega), zx 16 g (by decide) (by omega)⟩, fun j _ => ⟨zx 18 _ (by decide) (by omega), zx 19 _ (by decide) (by omega)⟩⟩, by rw [zx 15 _ (by decide) (by omega)]; exact Nat.le_refl _⟩
    · rw [jl_nil]
      exact ⟨fun d j x1 x2 _ x4 => q6' d j (by omega), fun j _ x => q6' 16 j (by omega), fun g _ _ => ⟨⟨q6' 17 g (by omega), q6' 18 g (by omega), q6' 20 g (by omega), q6' 22 g (by omega)⟩, fun j _ => q6' 23 _ (by omega)⟩⟩
    · refine sg_s (l := [(G 62 0, w4 + 1, s4, 1 :: c4)]) (Or.inl ⟨13, z14, rfl⟩) (fun v hv => ?_)
      rw [List.mem_singleton.mp hv]
      exact sg_s (l := []) (Or.inr ⟨13, z38, ci6.1, c4, rfl, ci6.2.1, rfl⟩) (fun v hv => absurd hv (List.not_mem_nil))
end
