/-! ===== a37: a block that is closed (wip/whole2/lawa37.py) ===== -/
theorem cx_at_in {c : List Nat} {p s : Nat} (hp : p < hg c) : ∀ {a : List Nat}, cx_at (a ++ c) p s → cx_at c p s
  | [], h => h
  | e :: a, ⟨x, y, h1, h2⟩ => by
    cases x with
    | nil =>
      injection h1 with e1 e2
      exfalso
      have e3 : y = a ++ c := e2.symm
      rw [e3, hg_app] at h2
      omega
    | cons z x =>
      injection h1 with e1 e2
      exact cx_at_in hp ⟨x, y, e2, h2⟩
theorem cx_at_hi {c : List Nat} {p s : Nat} (hp : hg c ≤ p) : ∀ {a : List Nat}, cx_at (a ++ c) p s → fs (a ++ c) → ∀ e ∈ c, e < s + 5
  | [], h, _ => by
    have := cx_at_lt h
    exact fun e he => absurd hp (by show ¬ hg c ≤ p; have h2 : p < hg c := this; omega)
  | e0 :: a, ⟨x, y, h1, h2⟩, hf => by
    cases x with
    | nil => exact fun e he => hf [] (s + 5) y h1 (by omega) e (by
        injection h1 with e1 e2
        rw [← e2]
        exact List.mem_append_right _ he)
    | cons z x =>
      injection h1 with e1 e2
      exact cx_at_hi hp ⟨x, y, e2, h2⟩ (fs_dn (a := [e0]) hf)
theorem dk32_2b {nn x y z : Nat} {F : wq_F} : dk_32 nn F 2 x y z = (dk_225 F x).bind fun y17 => some (1, y17.2) := dk32_2
section
variable {nn : Nat} {T : Nat → Nat} {n M O : Nat} {G0 : wq_F} {c0 : List (List Nat)} {i t w s nw ns np N : Nat} {off voff ph : Nat → Nat} {cx : Nat → List Nat} {c cb : List Nat} {W : List (Nat × Nat × Nat × Nat)} {L : List (Nat × Nat)} {P Q : List (Nat × Nat × Nat)} {ls cs : List (List Nat)} {F G : wq_F}

variable {Jr0 Jc0 : List Nat}
/-- names that came are gone -/
theorem bz_close {off1 voff1 ph1 : Nat → Nat} {a : List Nat} {H K : wq_F} {m : Nat} (hb : bz N off1 voff1 ph1 cx (a ++ c) m F ls G cs) (hv : ve N off voff ph off1 voff1 ph1) (hph : ∀ k, k < voff N → ph k < off N) (hlo : off (N - 1) ≤ off N ∧ voff (N - 1) ≤ voff N) (h61 : ∀ k, voff (N - 1) ≤ k → k < voff N → G 61 (ph k) < hg c)
    (hF : H 0 53 = F 0 53 ∧ H 0 50 = voff N ∧ (∀ d, d = 14 ∨ d = 15 ∨ d = 16 ∨ d = 18 ∨ d = 19 ∨ (29 ≤ d ∧ d ≤ 32) → H d = F d)) (hG : K 59 8 = G 59 8 ∧ K 59 3 = off N ∧ (∀ d, d = 19 ∨ d = 20 ∨ d = 22 ∨ d = 23 ∨ (60 ≤ d ∧ d ≤ 63) ∨ d = 66 → K d = G d)) (h64 : ∀ l, l < N → K 64 l = if l = N - 1 then hg c else G 64 l) : bz N off voff ph cx c m H ls K cs := by
  obtain ⟨b1, b2, b3, b4, b5, b6, b7, b8⟩ := hb
  obtain ⟨v1, v2, v3, v4, v5⟩ := hv
  have hN := b1.1
  have cl := sc_close (F1 := H) (G1 := K) (a := off N) (b := voff N) b1 b2 b3 ⟨by rw [(v1 (N - 1) (by omega)).1]; exact hlo.1, v2⟩ ⟨by rw [(v1 (N - 1) (by omega)).2]; exact hlo.2, v3⟩ (fun k hk => ⟨fun q => by rw [v4 k q]; exact hph k q, fun q => by
    by_cases z : k < voff N
    · exact z
    · have := v5 k (by omega) hk
      omega⟩) ⟨hF.1, hF.2.1, fun d hd => hF.2.2 d (by omega)⟩ ⟨hG.1, hG.2.1, fun d hd => hG.2.2 d (by omega)⟩
  have eo : ∀ l, l ≤ N → off l = at_N off1 N (off N) l := fun l hl => by
    by_cases q : l = N
    · rw [q, at_N_is]
    · rw [at_N_ne q, (v1 l (by omega)).1]
  have ev : ∀ l, l ≤ N → voff l = at_N voff1 N (voff N) l := fun l hl => by
    by_cases q : l = N
    · rw [q, at_N_is]
    · rw [at_N_ne q, (v1 l (by omega)).2]
  have ep : ∀ k, k < at_N voff1 N (voff N) N → ph k = ph1 k := fun k hk => by
    rw [at_N_is] at hk
    exact (v4 k hk).symm
  have hm : ∀ l, l < N → at_N voff1 N (voff N) l ≤ at_N voff1 N (voff N) (l + 1) := fun l hl => (cl.1.2.1 l hl).2.1
  have vm : ∀ l, l < N → voff (l + 1) ≤ voff N := fun l hl => by
    have y := sc_mono hm (show l + 1 ≤ N by omega) (Nat.le_refl _)
    rw [← ev (l + 1) (by omega), at_N_is] at y
    exact y
  refine ⟨sc_ext cl.1 eo ev ep, cp_ext cl.2.1 eo ev ep hm, ll_ext cl.2.2 eo ev, fun l hl => ?_, fun l k hl h1 h2 => ?_, fun l hl => ?_, fun l hl => ?_, b8⟩
  · rw [h64 l hl]
    by_cases q : l + 1 = N
    · rw [if_pos (by omega), cxf_t q]
    · have y := b4 l hl
      rw [cxf_f q] at y
      rw [if_neg (by omega), cxf_f q, y]
  · have vl := vm l hl
    have hk : k < voff N := by omega
    rw [hG.2.2 61 (by decide), hF.2.2 30 (by decide), ← v4 k hk]
    have y := b5 l k hl (by rw [(v1 l hl).2]; exact h1) (by
      by_cases q : l + 1 = N
      · rw [q]; omega
      · rw [(v1 (l + 1) (by omega)).2]; exact h2)
    by_cases q : l + 1 = N
    · rw [cxf_t q] at y ⊢
      refine cx_at_in ?_ y
      rw [v4 k hk]
      exact h61 k (by rw [show N - 1 = l by omega]; exact h1) hk
    · rw [cxf_f q] at y ⊢
      exact y
  · rw [hG.2.2 62 (by decide)]
    exact b6 l hl
  · rw [hG.2.2 62 (by decide), hF.2.2 16 (by decide), hG.2.2 22 (by decide), hF.2.2 14 (by decide)]
    refine ⟨(b7 l hl).1, fun e he => ?_⟩
    by_cases q : l + 1 = N
    · rw [cxf_t q] at he
      exact (b7 l hl).2 e (by rw [cxf_t q]; exact List.mem_append_right _ he)
    · rw [cxf_f q] at he
      exact (b7 l hl).2 e (by rw [cxf_f q]; exact he)
/-- a stretch at whose end the names that came are gone -/
theorem ge_cl {A B H K H' K' : wq_F} {i' t' w' s' nw' ns' np' w'' s'' : Nat} {ls' cs' : List (List Nat)} {c' : List Nat} {W' : List (Nat × Nat × Nat × Nat)} {L' : List (Nat × Nat)} {P' Q' : List (Nat × Nat × Nat)} {off' voff' ph' : Nat → Nat} {Jr Jc : List Nat} (h : ge T n M G0 c0 O N cx cb A B i ls cs w s nw ns np c off voff ph L Jr0 Jc0 t W P Q H K i' ls' cs' w' s' nw' ns' np' c' off' voff' ph' L' Jr Jc) (hr : ry T n M i' ls' t' w'' nw' np' W' L' P' H') (hc : cy T n G0 c0 O i' cs' s'' ns' np' N Q' K') (hb : bz N off voff ph cx c np' H' ls' K' cs') (hp : pj ls' cs' (lvl N K) (K 62 (N - 1)) cb H K w' s' nw' ns' np' c' H' K' w'' s'' nw' ns' np' c [] []) (hk : ∀ d j, d = 62 ∨ d = 65 ∨ d = 61 ∨ d = 60 → K' d j = K d j) (h62 : ∀ l, l < N → B 62 l < np) : ge T n M G0 c0 O N cx cb A B i ls cs w s nw ns np c off voff ph L Jr0 Jc0 t' W' P' Q' H' K' i' ls' cs' w'' s'' nw' ns' np' c off voff ph L' Jr Jc := by
  obtain ⟨a1, a2, a3, a4, ⟨a5, a6, a7⟩, ⟨a8, a9⟩, a10, a11, a12⟩ := h
  have hN := a3.1.1.1
  have hp0 := hp
  rw [lvl_eq (fun l hl => a7.1 l hl), a7.1 (N - 1) (by omega)] at hp
  refine ⟨hr, hc, hb, ?_, ⟨a5, a6, ⟨fun l hl => (hk 62 l (by decide)).trans (a7.1 l hl), fun l hl => (hk 65 l (by decide)).trans (a7.2.1 l hl), fun i hi e6 h6 => (hk e6 i (by omega)).trans (a7.2.2 i hi e6 h6)⟩⟩, ⟨a8, a9⟩, ve_refl, bo_x a11 (fun j hj => hp0.2.1.1 21 j (by decide) (by decide) hj) (fun j hj => hp0.2.2.1.1 14 j (by decide) (by decide) hj) (hk 65 _ (by decide)) hp0.1.1 hp0.1.2.1, a12⟩
  exact pj_t a4 hp (st_pre_refl _) (st_pre_refl _) (fun g hg ⟨l, l1, l2⟩ => by have := h62 l l1; omega) (h62 (N - 1) (by omega))
theorem dkS_225 {F : wq_F} {x v : Nat} (h : F 0 50 = v) (hx : x ≤ v) (hv : v < 1600) (hw : F 0 41 < 14000) : dk_225 F x = if x < v then some (0, wq_up (pm_em F 20 (F 30 x) 0 0) 0 50 x) else some (0, F) := by
  unfold dk_225
  rw [h]
  by_cases q : x < v
  · rw [if_pos q, if_pos ((wd_slt (by omega) (by omega)).mpr q), od_g1 (by omega), dkS_30 hw, od_bS]
    dsimp only
    rw [od_upS]
  · rw [if_neg q, if_neg (fun z => q ((wd_slt (by omega) (by omega)).mp z))]
theorem sx_115 {k d e p B : Nat} (h : sx T n G0 c0 O e p N B G) (hk : 2 ≤ k) (hn : 10000 < nn) (hB : B < 10000) : wok (dk_R nn k 115 [d] G) (fun _ K => sx T n G0 c0 O e p N (B + 1) K) := by
  have ha := h.2.2.1.2.2.2.2.2.2.1
  obtain ⟨k, rfl⟩ : ∃ m, k = m + 1 := ⟨k - 1, by omega⟩
  rw [dk_Re_115]
  unfold dk_115
  refine wok_b (sx_84 h) fun r K h => ?_
  refine wok_b (sx_80 h (by omega) hn) fun r K h => ?_
  refine wok_b (sx_168 h (by omega)) fun r K h => ?_
  refine wok_b (sx_84 h) fun r K h => ?_
  exact wok_i (fun _ => wok_r (sx_le h (by omega))) (fun _ => wok_b (sx_113 h hB) fun r K h => wok_r h)
theorem cb_ok {D k : Nat} (hM : tk_M T n M) (hn : 10000 < nn) (hc0 : c0.length ≤ 1400) (hO : O ≤ 20000) (hD : D ≤ 21) (hBk : Bk_ok nn T n M G0 c0 O D) (hk : 20 * (22 - D) + 25 ≤ k) (htD : t + 1 = D) (hr : ry T n M i ls t w nw np ((0, 0, 0, 0) :: (2, voff N, 0, 0) :: W) L P F) (hc : cy T n G0 c0 O i cs s ns np N Q G) (hb : bz N off voff ph cx c np F ls G cs) (hB : bnd i (w + 2) (s + 1) nw ns np t (hg c) W L P Q N) (hW : W.length ≤ 20 * t + 9) (hbo : bo N L F G w s Jr0 Jc0) (hib : ib N L cb c) (hfs : fs c) : wok (dk_R nn k 115 [D] G) (fun _ K => (∃ i' w' s' nw' ns' np' ls' cs' H L' Jr Jc, (rm_to nn F H ∧ rm_fr F H) ∧ ge T n M G0 c0 O N cx cb F G i ls cs w s nw ns np c off voff ph L Jr0 Jc0 t W P Q H K i' ls' cs' w' s' nw' ns' np' c off voff ph L' Jr Jc ∧ i ≤ i' ∧ w' + 6 * i ≤ w + 6 * i' + 1 ∧ s' + 4 * i ≤ s + 4 * i' + 1 ∧ nw' + i ≤ nw + i' ∧ ns' + i ≤ ns + i') ∨ ∃ e p, rm_out nn e p F ∧ sxy T n G0 c0 O e p N (zz D + 101) K) := by
  have hz : 6200 ≤ zz D ∧ zz D < 9800 := by unfold zz; omega
  have hB0 := hB
  obtain ⟨m1, m2, m3, m4, m5, m6, m7, m8, m9, m10, m11, m12⟩ := hB0
  have hM1 := hM.1
  have h62 := hb.2.2.2.2.2.1
  have hN := hb.1.1
  have h593 : G 59 3 = off N := hN.2.2.2.2.2.2.1
  obtain ⟨k, rfl⟩ : ∃ a, k = a + 1 := ⟨k - 1, by omega⟩
  rw [dk_Re_115]
  unfold dk_115
  rw [cy_84 hc hb, od_bS, h593]
  dsimp only
  refine wok_b (hBk k i t w s nw ns np N off voff ph cx c cb ((2, voff N, 0, 0) :: W) L P Q ls cs F G Jr0 Jc0 (by omega) htD hr hc hb ⟨m1, m2, m3, m4, m5, m6, m7, by show W.length + 1 ≤ _; omega, m9, m10, m11, m12⟩ (by show W.length + 1 ≤ _; omega) hbo hib hfs) fun r K h => ?_
  dsimp only
  rcases h with ⟨i1, w1, s1, nw1, ns1, np1, ls1, cs1, H1, c1, off1, voff1, ph1, L1, Jr, Jc, g1, ge1, lo1, ⟨u1, u2, u3, u4, u5⟩, hh1⟩ | ⟨e, p, ho, hx⟩
  rotate_left
  · refine wok_b (sxy_168 hx (by omega)) fun r K h => ?_
    refine wok_b (sxy_84 h) fun r K h => ?_
    exact wok_i (fun _ => wok_r (Or.inr ⟨e, p, ho, sxy_le h (by omega)⟩)) (fun _ => wok_b (sxy_113 h (by omega)) fun r K h => wok_r (Or.inr ⟨e, p, ho, sxy_le h (by omega)⟩))
  have hi1 := ge1.1.1.2.2.1
  have n5 : np1 ≤ 50 := ge1.2.2.2.2.2.1.2
  have b1 := ge1.2.2.1
  have v1 := ge1.2.2.2.2.2.2.1
  have hk61 := ge1.2.2.2.2.1.2.2.2.2
  have hfs1 : fs c1 := by
    obtain ⟨_, _, _, _, _, z⟩ := lo1
    exact z hfs
  obtain ⟨a, ea, a5, al, apos, _⟩ := lo1
  subst ea
  have hgo := fun H => ry_go (nn := nn) (H := H) ge1.1 (by show W.length < 4000; omega)
  have h33 : dk_32 nn (wq_up H1 0 46 W.length) (2, voff N, 0, 0).1 (2, voff N, 0, 0).2.1 (2, voff N, 0, 0).2.2.1 (2, voff N, 0, 0).2.2.2 = (dk_225 (wq_up H1 0 46 W.length) (voff N)).bind fun y17 => some (1, y17.2) := by
    show dk_32 nn (wq_up H1 0 46 W.length) 2 (voff N) 0 0 = _
    rw [dk32_2b]
  have hp := ry_pop ge1.1
  have bp := bz_fu (d := 0) (j := 46) (v := W.length) b1 (by omega)
  have fp : rm_fr H1 (wq_up H1 0 46 W.length) := rm_fr_up (rm_fr_refl _) (by decide) (by decide)
  have xp : ∀ d j, ¬ d = 0 → wq_up H1 0 46 W.length d j = H1 d j := fun d j q => wq_up_cell q
  generalize dk_32 nn (wq_up H1 0 46 W.length) (2, voff N, 0, 0).1 (2, voff N, 0, 0).2.1 (2, voff N, 0, 0).2.2.1 (2, voff N, 0, 0).2.2.2 = mm at *
  generalize wq_up H1 0 46 W.length = Hp at *
  have hw1 : Hp 0 41 = w1 := hp.2.1.2.1
  have h50 : Hp 0 50 = voff1 N := bp.1.1.2.2.2.2.2.2.2.1
  have vle := bz_vle bp
  have ole := bp.1.1.2.2.2.2.2.2.2.2
  rw [dkS_225 h50 v1.2.2.1 (by omega) (by omega)] at h33
  have hph : ∀ k, k < voff N → ph k < off N := fun k hk => (hb.1.2.2.1 k hk).1
  have hlo : off (N - 1) ≤ off N ∧ voff (N - 1) ≤ voff N := by
    have y := hb.1.2.1 (N - 1) (by omega)
    rw [show N - 1 + 1 = N by omega] at y
    exact ⟨y.1, y.2.1⟩
  have h61 : ∀ k, voff (N - 1) ≤ k → k < voff N → K 61 (ph k) < hg c := fun k a b => by
    rw [hk61 _ (hph k b) 61 (Or.inr rfl)]
    have y := hb.2.2.2.2.1 (N - 1) k (by omega) a (by rw [show N - 1 + 1 = N by omega]; exact b)
    rw [cxf_t (by omega)] at y
    exact cx_at_lt y
  unfold dk_168
  rw [od_upS, od_bS]
  dsimp only
  have c2 : cy T n G0 c0 O i1 cs1 s1 ns1 np1 N Q (wq_up K 59 3 (off N)) := cy_up ge1.2.1 (by unfold cy_n; omega)
  have e84 : dk_84 (wq_up K 59 3 (off N)) = some (hg (a ++ c), wq_up K 59 3 (off N)) := by
    rw [dkS_84 (l := N - 1) (by rw [wq_up_at (by decide)]; have := b1.1.1; omega) (by omega), wq_up_cell (by decide), bz_hc b1]
  rw [e84, od_bS]
  dsimp only
  have hga : hg (a ++ c) = a.length + hg c := by rw [hg_app, hg_5 a5]
  have l64 : ∀ l, l < N → K 64 l = hg (cxf cx N (a ++ c) l) := b1.2.2.2.1
  by_cases q : a.length = 0
  · -- no locals
    rw [if_neg (by omega), od_bS] at h33
    dsimp only at h33
    have ea : a = [] := List.eq_nil_of_length_eq_zero q
    subst ea
    refine wok_t (by rw [hga, q, Nat.zero_add]) (wok_r ?_)
    have g3 := hgo _ (rgo_i h33 (by decide) hp.1.1 fp)
    have b3 : bz N off voff ph cx c np1 Hp ls1 (wq_up K 59 3 (off N)) cs1 := bz_close (a := []) bp v1 hph hlo h61 ⟨rfl, h50.trans (by simp only [List.length_nil] at al; omega), fun _ _ => rfl⟩ ⟨wq_up_at (by decide), wq_up_same _ _ _ _, fun d hd => funext fun j => wq_up_cell (by omega)⟩ (fun l hl => by
      rw [wq_up_cell (by decide)]
      by_cases z : l = N - 1
      · rw [if_pos z, l64 l hl, z, cxf_t (by omega)]
        rfl
      · rw [if_neg z])
    refine Or.inl ⟨i1, w1, s1, nw1, ns1, np1, ls1, cs1, Hp, L1, Jr, Jc, ⟨rm_trans g1.1 g3.1, rm_fr_trans g1.2 g3.2⟩, ge_cl ge1 hp c2 b3 (pj_n (fun d j q => xp d j (by omega)) (fun d j q => wq_up_cell (by omega))) (fun d j q => wq_up_cell (by omega)) h62, u1, by omega, by omega, u4, u5⟩
  · rw [if_pos (by omega), od_bS] at h33
    dsimp only at h33
    refine wok_f (by rw [hga]; omega) ?_
    have r3 : ry T n M i1 ls1 t (w1 + 1) nw1 np1 W L1 P (wq_up (pm_em Hp 20 (Hp 30 (voff N)) 0 0) 0 50 (voff N)) := ry_up (ry_em hp) (by unfold ry_n; omega)
    have f3 : rm_fr H1 (wq_up (pm_em Hp 20 (Hp 30 (voff N)) 0 0) 0 50 (voff N)) := rm_fr_up (rm_fr_em fp) (by decide) (by decide)
    have g3 := hgo _ (rgo_i h33 (by decide) r3.1.1 f3)
    have hat := pm_em_at (F := Hp) (op := 20) (a := Hp 30 (voff N)) (b := 0) (ln := 0)
    rw [hw1] at hat
    have x3 : ∀ d j, ¬ d = 0 → ¬ (20 ≤ d ∧ d ≤ 23 ∧ j = w1) → wq_up (pm_em Hp 20 (Hp 30 (voff N)) 0 0) 0 50 (voff N) d j = H1 d j := fun d j z y => by
      rw [wq_up_cell z, pm_em_ne (by omega) (by omega), xp d j z]
    have y3 : wq_up (pm_em Hp 20 (Hp 30 (voff N)) 0 0) 0 50 (voff N) 20 w1 = 20 ∧ wq_up (pm_em Hp 20 (Hp 30 (voff N)) 0 0) 0 50 (voff N) 21 w1 = H1 30 (voff N) := ⟨(wq_up_cell (by decide)).trans hat.1, ((wq_up_cell (by decide)).trans hat.2.1).trans (xp 30 _ (by decide))⟩
    have y53 : wq_up (pm_em Hp 20 (Hp 30 (voff N)) 0 0) 0 50 (voff N) 0 53 = H1 0 53 := by
      have z1 := bp.1.1.2.2.1
      have z2 := b1.1.1.2.2.1
      rw [wq_up_at (by decide), pm_em_ne (by omega) (by omega)]
      omega
    have y50 : wq_up (pm_em Hp 20 (Hp 30 (voff N)) 0 0) 0 50 (voff N) 0 50 = voff N := wq_up_same _ _ _ _
    generalize wq_up (pm_em Hp 20 (Hp 30 (voff N)) 0 0) 0 50 (voff N) = H3 at *
    have s2 : wq_up K 59 3 (off N) 11 4 = s1 := c2.2.1.1
    have l8 : wq_up K 59 3 (off N) 59 8 = N - 1 := by
      have := b1.1.1
      rw [wq_up_at (by decide)]
      omega
    refine wok_b (wok_e (dkS_113 (h := hg c) l8 (by omega) (by omega)) ⟨rfl, rfl⟩ : wok _ (fun r K' => r = 0 ∧ K' = wq_up (pg_em (wq_up K 59 3 (off N)) 27 (hg c) 0 0) 64 (N - 1) (hg c))) fun r K3 h3 => wok_r ?_
    dsimp only
    obtain ⟨_, e3⟩ := h3
    have c3 : cy T n G0 c0 O i1 cs1 (s1 + 1) ns1 np1 N Q K3 := by
      rw [e3]
      exact cy_up (cy_em c2 (okj_p (by decide))) (by unfold cy_n; omega)
    have at3 := pg_em_at (G := wq_up K 59 3 (off N)) (op := 27) (a := hg c) (b := 0) (ln := 0)
    rw [s2] at at3
    have z3 : ∀ d j, ¬ (12 ≤ d ∧ d ≤ 15 ∧ j = s1) → ¬ d = 11 → ¬ (d = 59 ∧ j = 3) → ¬ (d = 64 ∧ j = N - 1) → K3 d j = K d j := fun d j z1 z2 z4 z5 => by
      rw [e3, wq_up_ne z5, pg_em_ne (by omega) (by omega), wq_up_ne z4]
    have z27 : K3 12 s1 = 27 ∧ K3 13 s1 = hg c := ⟨by rw [e3, wq_up_cell (by decide)]; exact at3.1, by rw [e3, wq_up_cell (by decide)]; exact at3.2.1⟩
    have z593 : K3 59 3 = off N := by
      rw [e3, wq_up_cell (by decide), pg_em_ne (by omega) (by omega), wq_up_same]
    have z64 : K3 64 (N - 1) = hg c := by rw [e3, wq_up_same]
    have b3 : bz N off voff ph cx c np1 H3 ls1 K3 cs1 := bz_close (a := a) b1 v1 hph hlo h61 ⟨y53, y50, fun d hd => funext fun j => x3 d j (by omega) (by omega)⟩ ⟨z3 59 8 (by omega) (by omega) (by omega) (by omega), z593, fun d hd => funext fun j => z3 d j (by omega) (by omega) (by omega) (by omega)⟩ (fun l hl => by
      by_cases z : l = N - 1
      · rw [if_pos z, z, z64]
      · rw [if_neg z, z3 64 l (by omega) (by omega) (by omega) (by omega)])
    have hlow : ∀ e ∈ c, e < H1 30 (voff N) + 5 := by
      have y := b1.2.2.2.2.1 (N - 1) (voff N) (by omega) (by rw [(v1.1 (N - 1) (by omega)).2]; exact hlo.2) (by rw [show N - 1 + 1 = N by omega]; omega)
      rw [cxf_t (by omega), apos (voff N) (Nat.le_refl _) (by omega)] at y
      exact cx_at_hi (by omega) y hfs1
    have p3 : pj ls1 cs1 (lvl N K) (K 62 (N - 1)) cb H1 K w1 s1 nw1 ns1 np1 (a ++ c) H3 K3 (w1 + 1) (s1 + 1) nw1 ns1 np1 c [] [] := by
      refine pj_1 ⟨by omega, by omega, by omega, by omega⟩ (fun d j q => x3 d j (by omega) (by omega)) (fun d j q => z3 d j (by omega) (by omega) (by omega) (by omega)) (fun H J nm ha2 hb2 _ => Or.inl ⟨21, ?_, ?_, a, c, rfl, fun e he => by have := a5 e he; omega, ?_, ?_, rfl⟩)
      · rw [ha2.1 20 w1 (by decide) (by decide) (by omega) (by omega)]
        exact y3.1
      · rw [hb2.1 12 s1 (by decide) (by decide) (by omega) (by omega)]
        exact z27.1
      · rw [hb2.1 13 s1 (by decide) (by decide) (by omega) (by omega)]
        exact z27.2
      · rw [ha2.1 21 w1 (by decide) (by decide) (by omega) (by omega), y3.2]
        exact hlow
    exact Or.inl ⟨i1, w1 + 1, s1 + 1, nw1, ns1, np1, ls1, cs1, H3, L1, Jr, Jc, ⟨rm_trans g1.1 g3.1, rm_fr_trans g1.2 g3.2⟩, ge_cl ge1 r3 c3 b3 p3 (fun d j q => z3 d j (by omega) (by omega) (by omega) (by omega)) h62, u1, by omega, by omega, u4, u5⟩
end
