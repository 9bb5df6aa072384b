/-! ===== a46: if: else and elseif (wip/whole2/lawa46.py) ===== -/
section
variable {nn : Nat} {T : Nat → Nat} {n M O : Nat} {G0 : wq_F} {c0 : List (List Nat)} {i t w s nw ns np N : Nat} {off voff ph : Nat → Nat} {cx : Nat → List Nat} {c cb : List Nat} {W : List (Nat × Nat × Nat × Nat)} {L : List (Nat × Nat)} {P Q : List (Nat × Nat × Nat)} {ls cs : List (List Nat)} {F G : wq_F}

variable {JR JC Er Ec : List Nat} {B0 : wq_F} {wc sc e0 d0 : Nat}
/-- both jump to the end, the condition led here: up to the word -/
theorem if_jump {D : Nat} (hM : tk_M T n M) (hn : 10000 < nn) (hc0 : c0.length ≤ 1400) (hO : O ≤ 20000) (hD : D ≤ 20) (htD : t = D) (hr : ry T n M i ls t w nw np ((24, wc, e0, 0) :: W) L P F) (hc : cy T n G0 c0 O i cs s ns np N Q G) (hb : bz N off voff ph cx c np F ls G cs) (hB : bnd i w s nw ns np t (hg c) W L P Q N) (hW : W.length ≤ 20 * t) (hL1 : L.length + 1 ≤ t) (hbo : bo N L F G w s JR JC) (hib : ib N L cb c) (hfs : fs c) (hch : jc (F 21) e0 w Er ∧ jc (G 14) d0 s Ec ∧ (∀ j ∈ Er, ¬ j ∈ JR) ∧ ∀ j ∈ Ec, ¬ j ∈ JC) (hwc : wc < w ∧ ¬ wc ∈ Er ∧ ¬ wc ∈ JR) (hsc : sc < s ∧ ¬ sc ∈ Ec ∧ ¬ sc ∈ JC ∧ G 14 sc = 4294967295) (h62B : ∀ l, l < N → G 62 l = B0 62 l) (hx : tk_k T n i = 4 ∧ (tk_V T n (tk_pos T n i) = 5 ∨ tk_V T n (tk_pos T n i) = 4)) :
    ∃ F1, (rm_fr F F1) ∧ (∀ H, rgo nn F ((dk_212 F1).bind fun y13 => if y13.1 = 0 then some (0, y13.2) else if (if tk_V T n (tk_pos T n i) = 5 then 1 else 0) = 0 then (dk_31 y13.2 25 w 0 0).bind fun y19 => (dk_224 y19.2).bind fun y23 => some (1, y23.2) else (dk_31 y13.2 23 w 0 0).bind fun y27 => (dk_31 y27.2 3 0 0 0).bind fun y31 => some (1, y31.2)) H → rm_to nn F H ∧ rm_fr F H) ∧ (∀ k p, rba nn F ((dk_212 F1).bind fun y13 => if y13.1 = 0 then some (0, y13.2) else if (if tk_V T n (tk_pos T n i) = 5 then 1 else 0) = 0 then (dk_31 y13.2 25 w 0 0).bind fun y19 => (dk_224 y19.2).bind fun y23 => some (1, y23.2) else (dk_31 y13.2 23 w 0 0).bind fun y27 => (dk_31 y27.2 3 0 0 0).bind fun y31 => some (1, y31.2)) k p → rm_out nn k p F) ∧ ry T n M i ls t (w + 1) nw np W L P F1 ∧ (F1 20 w = 21 ∧ F1 21 w = e0 ∧ F1 21 wc = w + 1) ∧ (∀ d j, ¬ d = 0 → ¬ (20 ≤ d ∧ d ≤ 23 ∧ j = w) → ¬ (d = 21 ∧ j = wc) → F1 d j = F d j) ∧ F1 0 50 = F 0 50 ∧ F1 0 53 = F 0 53 ∧
      wok ((dk_78 G 21 0 d0 0).bind fun y => (dk_159 nn y.2 sc).bind fun z => some (y.1, z.2)) (fun r K => r = s ∧ cy T n G0 c0 O i cs (s + 1) ns np N Q K ∧ bz N off voff ph cx c np F1 ls K cs ∧ (K 12 s = 21 ∧ K 14 s = d0 ∧ K 14 sc = s + 1) ∧ ∀ d j, (17 ≤ d ∧ d ≤ 23) ∨ (12 ≤ d ∧ d ≤ 15 ∧ j < s ∧ ¬ (d = 14 ∧ j = sc)) ∨ (d = 16 ∧ j < ns) ∨ d = 62 ∨ d = 65 ∨ d = 61 ∨ d = 60 → K d j = G d j) := by
  obtain ⟨m1, m2, m3, m4, m5, m6, m7, m8, m9, m10, m11, m12⟩ := hB
  have hM1 := hM.1
  have hiM := hr.1.2.2.1
  have hd0 : okj d0 := by
    have y := hch.2.1
    cases Ec with
    | nil => exact okj_n y
    | cons z Z => exact okj_p (by have := y.1; have := y.2.1; omega)
  have hgo := fun H => ry_go (nn := nn) (H := H) hr (by show W.length < 4000; omega)
  have hba := fun k p => ry_ba (nn := nn) (k := k) (p := p) hr (by show W.length < 4000; omega)
  have r1 := ry_pop hr
  have h33 : dk_32 nn (wq_up F 0 46 W.length) (24, wc, e0, 0).1 (24, wc, e0, 0).2.1 (24, wc, e0, 0).2.2.1 (24, wc, e0, 0).2.2.2 = dk_259 nn (wq_up F 0 46 W.length) wc e0 := by
    show dk_32 nn (wq_up F 0 46 W.length) 24 wc e0 0 = _
    rw [dk32_24b]
  have b1 : bz N off voff ph cx c np (wq_up F 0 46 W.length) ls G cs := bz_fu hb (by omega)
  have f1 : rm_fr F (wq_up F 0 46 W.length) := rm_fr_up (rm_fr_refl _) (by decide) (by decide)
  have x1 : ∀ d j, ¬ (d = 0 ∧ j = 46) → wq_up F 0 46 W.length d j = F d j := fun d j q => wq_up_ne q
  generalize dk_32 nn (wq_up F 0 46 W.length) (24, wc, e0, 0).1 (24, wc, e0, 0).2.1 (24, wc, e0, 0).2.2.1 (24, wc, e0, 0).2.2.2 = mm at *
  generalize wq_up F 0 46 W.length = F1 at *
  have hw1 : F1 0 41 = w := r1.2.1.2.1
  have e1 : mm = dk_259_18 nn F1 wc e0 := by
    rw [h33]
    unfold dk_259
    rw [pm_isWord hM r1.1 (by decide), od_bS]
    dsimp only
    rw [if_ck]
    by_cases q : tk_k T n i = 4 ∧ tk_V T n (tk_pos T n i) = 5
    · rw [if_pos q]
    · rw [if_neg q, pm_isWord hM r1.1 (by decide), od_bS]
      dsimp only
      rw [if_ck, if_pos ⟨hx.1, hx.2.resolve_left (fun z => q ⟨hx.1, z⟩)⟩]
  have at2 := pm_em_at (F := F1) (op := 21) (a := e0) (b := 0) (ln := 0)
  rw [hw1] at at2
  have e2 : dk_259_18 nn F1 wc e0 = (dk_212 (wq_up (pm_em F1 21 e0 0 0) 21 wc (w + 1))).bind fun y13 => if y13.1 = 0 then some (0, y13.2) else if (if tk_V T n (tk_pos T n i) = 5 then 1 else 0) = 0 then (dk_31 y13.2 25 w 0 0).bind fun y19 => (dk_224 y19.2).bind fun y23 => some (1, y23.2) else (dk_31 y13.2 23 w 0 0).bind fun y27 => (dk_31 y27.2 3 0 0 0).bind fun y31 => some (1, y31.2) := by
    unfold dk_259_18
    rw [pm_isWord hM r1.1 (by decide), od_bS]
    dsimp only
    rw [dkS_30 (by omega), od_bS, hw1]
    dsimp only
    rw [at2.2.2.2.2, od_g1 (by omega), od_upS]
    have ec : (if tk_k T n i = 4 ∧ tk_V T n (tk_pos T n i) = 5 then (1 : Nat) else 0) = if tk_V T n (tk_pos T n i) = 5 then 1 else 0 := by
      by_cases q : tk_V T n (tk_pos T n i) = 5
      · rw [if_pos ⟨hx.1, q⟩, if_pos q]
      · rw [if_neg (fun z => q z.2), if_neg q]
    rw [ec]
  have r2 : ry T n M i ls t (w + 1) nw np W L P (wq_up (pm_em F1 21 e0 0 0) 21 wc (w + 1)) := ry_up (ry_em r1) (by unfold ry_n; omega)
  have b2 : bz N off voff ph cx c np (wq_up (pm_em F1 21 e0 0 0) 21 wc (w + 1)) ls G cs := bz_fu (bz_em b1) (by omega)
  have f2 : rm_fr F (wq_up (pm_em F1 21 e0 0 0) 21 wc (w + 1)) := rm_fr_up (rm_fr_em f1) (by decide) (fun z => absurd z (by decide))
  have x2 : ∀ d j, ¬ d = 0 → ¬ (20 ≤ d ∧ d ≤ 23 ∧ j = w) → ¬ (d = 21 ∧ j = wc) → wq_up (pm_em F1 21 e0 0 0) 21 wc (w + 1) d j = F d j := fun d j a b e => by
    rw [wq_up_ne e, pm_em_ne (by omega) (by omega), x1 d j (by omega)]
  have y2 : wq_up (pm_em F1 21 e0 0 0) 21 wc (w + 1) 20 w = 21 ∧ wq_up (pm_em F1 21 e0 0 0) 21 wc (w + 1) 21 w = e0 ∧ wq_up (pm_em F1 21 e0 0 0) 21 wc (w + 1) 21 wc = w + 1 := ⟨(wq_up_cell (by decide)).trans at2.1, (wq_up_at (by omega)).trans at2.2.1, wq_up_same _ _ _ _⟩
  have y0 : wq_up (pm_em F1 21 e0 0 0) 21 wc (w + 1) 0 50 = F 0 50 ∧ wq_up (pm_em F1 21 e0 0 0) 21 wc (w + 1) 0 53 = F 0 53 := ⟨by rw [wq_up_cell (by decide), pm_em_ne (by omega) (by omega), x1 0 50 (by omega)], by rw [wq_up_cell (by decide), pm_em_ne (by omega) (by omega), x1 0 53 (by omega)]⟩
  rw [e1, e2] at hgo hba
  generalize wq_up (pm_em F1 21 e0 0 0) 21 wc (w + 1) = F2 at *
  refine ⟨F2, f2, hgo, hba, r2, y2, x2, y0.1, y0.2, ?_⟩
  refine wok_b (cy_78 (op := 21) (a := 0) (b := d0) (ln := 0) hc b2 (by omega) hd0) fun r K1 h1 => ?_
  dsimp only
  obtain ⟨hr1, c3, b3, i3, q3, _⟩ := h1
  have k14 : K1 14 sc = 4294967295 := (q3 14 sc (by omega)).trans hsc.2.2.2
  rw [dkS_159 (L := [sc]) ⟨rfl, by omega, by rw [k14]; exact ⟨by decide, by decide⟩⟩ hn, od_bS, c3.2.1.1]
  refine wok_r ?_
  dsimp only
  refine ⟨hr1, cy_jl c3 (okj_p (by omega)), bz_G b3 (bzG_jl (bzG_refl _)) (fun l _ => jl_ne (by omega)), ⟨(jl_ne (by omega)).trans i3.1, ?_, jl_at (List.mem_singleton.mpr rfl)⟩, fun d j q => ?_⟩
  · show jl_up K1 14 [sc] (s + 1) 14 s = d0
    rw [jl_ne (fun z => by have := List.mem_singleton.mp z.2; omega)]
    exact i3.2.2.1
  · show jl_up K1 14 [sc] (s + 1) d j = G d j
    have x3 : jl_up K1 14 [sc] (s + 1) d j = K1 d j := jl_ne (fun z => by have := List.mem_singleton.mp z.2; omega)
    rw [x3]
    exact q3 d j (by omega)
/-- else -/
theorem if_else {D k g x : Nat} (hM : tk_M T n M) (hn : 10000 < nn) (hc0 : c0.length ≤ 1400) (hO : O ≤ 20000) (hD : D ≤ 20) (htD : t = D) (hr : ry T n M i ls t w nw np ((24, wc, e0, 0) :: W) L P F) (hc : cy T n G0 c0 O i cs s ns np N Q G) (hb : bz N off voff ph cx c np F ls G cs) (hB : bnd i w s nw ns np t (hg c) W L P Q N) (hW : W.length ≤ 20 * t) (hL1 : L.length + 1 ≤ t) (hbo : bo N L F G w s JR JC) (hib : ib N L cb c) (hfs : fs c) (hch : jc (F 21) e0 w Er ∧ jc (G 14) d0 s Ec ∧ (∀ j ∈ Er, ¬ j ∈ JR) ∧ ∀ j ∈ Ec, ¬ j ∈ JC) (hwc : wc < w ∧ ¬ wc ∈ Er ∧ ¬ wc ∈ JR) (hsc : sc < s ∧ ¬ sc ∈ Ec ∧ ¬ sc ∈ JC ∧ G 14 sc = 4294967295) (h62B : ∀ l, l < N → G 62 l = B0 62 l) (hn2 : 14000 < nn) (hBk : Bk_ok nn T n M G0 c0 O (D + 1)) (hkf : 20 * (22 - D) + 8 ≤ k) (hx : x ≤ i) (h4 : tk_k T n i = 4 ∧ tk_V T n (tk_pos T n i) = 4) : wok (dk_122_15 (dk_R nn k) nn (g + 1) G D d0 sc x) (fun _ K => (∃ i' w' s' nw' ns' np' ls' cs' H L' Jr Jc wz sz, (rm_to nn F H ∧ rm_fr F H) ∧ ifs T n M G0 c0 O N off voff ph cx G i ls cs w s nw ns np c L JR JC t W P Q H K i' ls' cs' w' s' nw' ns' np' L' Jr Jc ∧ (H 21 wc = wz ∧ K 14 sc = sz ∧ w ≤ wz) ∧ (ka (jl_up (jl_up F 21 [wc] wz) 21 Er w') H w nw np (lvl N B0) ∧ kb (jl_up (jl_up G 14 [sc] sz) 14 Ec s') K s ns np (lvl N B0)) ∧ sgu ls' cs' H K (B0 62 (N - 1)) w w' s s' nw nw' ns ns' np np' c Jr Jc cb (B0 62 (N - 1), w, s, c) ∧ sgu ls' cs' H K (B0 62 (N - 1)) w w' s s' nw nw' ns ns' np np' c Jr Jc cb (B0 62 (N - 1), wz, sz, c) ∧ w' + 6 * i ≤ w + 6 * i' ∧ s' + 4 * i ≤ s + 4 * i' ∧ nw' + i ≤ nw + i' ∧ ns' + i ≤ ns + i') ∨ ∃ e p, rm_out nn e p F ∧ sx T n G0 c0 O e p N (zz D + 95) K) := by
  have hz : 6200 ≤ zz D ∧ zz D < 9800 ∧ zz (D + 1) + 110 = zz D := by unfold zz; omega
  obtain ⟨F1, f1, hgo, hba, r1, ⟨y1a, y1b, y1c⟩, x1, x50, x53, wcl⟩ := if_jump (nn := nn) hM hn hc0 hO hD htD hr hc hb hB hW hL1 hbo hib hfs hch hwc hsc h62B ⟨h4.1, Or.inr h4.2⟩
  obtain ⟨m1, m2, m3, m4, m5, m6, m7, m8, m9, m10, m11, m12⟩ := hB
  have hM1 := hM.1
  have hiM := hr.1.2.2.1
  have hN := hb.1.1
  have h57 : G 57 4 = tk_ty T n (tk_pos T n i) := hc.1.2.1.1
  have t13 : tk_ty T n (tk_pos T n i) = 13 := (tk_ty_word (w := 4) (by decide)).mpr h4
  have v5 : ¬ tk_V T n (tk_pos T n i) = 5 := by rw [h4.2]; decide
  simp only [if_ck, if_neg v5] at hgo hba
  show wok (dk_122_15b (dk_R nn k) nn (dk_122_15 (dk_R nn k) nn g) G D d0 sc x) _
  unfold dk_122_15b dk_122_69
  refine wok_f (fun z => by have := (wd_slt (by decide) (by omega)).mp z; omega) ?_
  refine wok_f (fun z => by rw [h57, t13] at z; exact absurd z (by decide)) ?_
  refine wok_t (h57.trans t13) ?_
  rw [Nat.mod_eq_of_lt (show D + 1 < 4294967296 by omega)]
  obtain ⟨r0, K0, eK, hr0, c2, b2, ⟨k1, k2, k3⟩, kx⟩ := wcl
  -- the two steps taken
  have st : (dk_78 G 21 0 d0 0).bind (fun y2 => (dk_159 nn y2.2 sc).bind fun y6 => (dk_77 nn y6.2).bind fun y10 => (dk_R nn k 115 [D + 1] y10.2).bind fun y14 => dk_122_112 (dk_R nn k) nn y14.2 y2.1 4294967295) = (dk_77 nn K0).bind fun y10 => (dk_R nn k 115 [D + 1] y10.2).bind fun y14 => dk_122_112 (dk_R nn k) nn y14.2 r0 4294967295 := by
    cases h78 : dk_78 G 21 0 d0 0 with
    | none => rw [h78] at eK; cases eK
    | some y =>
      rw [h78, od_bS] at eK
      rw [od_bS]
      cases h159 : dk_159 nn y.2 sc with
      | none => rw [h159] at eK; cases eK
      | some z =>
        rw [h159, od_bS] at eK
        rw [od_bS]
        have e1 := Option.some.inj eK
        rw [← show y.1 = r0 from congrArg Prod.fst e1, ← show z.2 = K0 from congrArg Prod.snd e1]
  rw [st, hr0]
  refine wok_b (e_77 (cb := cb) (B := 6240) hM r1 c2 b2 (by omega) (by omega) hn hc0 hO (by omega) (by omega) m5 (by omega)) fun r K3 h3 => ?_
  dsimp only
  rcases h3 with ⟨ms, iM, e3, E3, f3⟩ | ⟨e3, hx'⟩
  rotate_left
  · rw [e3, od_bS] at hba
    dsimp only at hba
    rw [if_pos rfl] at hba
    have ho := hba _ _ (rba_f rfl f1 (by rw [r1.2.1.2.1]; omega))
    refine wok_b (sx_115 hx' (by omega) hn (by omega)) fun r K h => ?_
    exact wok_m (sx_112b h (by omega) (okj_p (by omega)) (okj_n (by decide)) hn) fun r K h => Or.inr ⟨_, _, ho, sx_le h (by omega)⟩
  rw [e3, od_bS] at hgo
  dsimp only at hgo
  rw [if_neg (by decide)] at hgo
  have f3r : rm_fr F (wq_up F1 0 25 (i + 1)) := rm_fr_up f1 (by decide) (by decide)
  have x3 : ∀ d j, ¬ d = 0 → wq_up F1 0 25 (i + 1) d j = F1 d j := fun d j q => wq_up_cell q
  have h50 : wq_up F1 0 25 (i + 1) 0 50 = voff N := by
    rw [wq_up_at (by decide), x50]
    exact hN.2.2.2.2.2.2.2.1
  generalize wq_up F1 0 25 (i + 1) = F3 at *
  have e4 := e_la (cb := cb) (x1 := 25) (x2 := w) (x3 := 0) (x4 := 0) E3.1 E3.2.1 E3.2.2.1 m5
  have e5 := e_la (cb := cb) (x1 := 2) (x2 := voff N) (x3 := 0) (x4 := 0) e4.1 e4.2.1 e4.2.2.1 m5
  have e6 := e_la (cb := cb) (x1 := 0) (x2 := 0) (x3 := 0) (x4 := 0) e5.1 e5.2.1 e5.2.2.1 m5
  have hd : ((dk_31 F3 25 w 0 0).bind fun y19 => (dk_224 y19.2).bind fun y23 => some (1, y23.2)) = some (1, pm_la (pm_la (pm_la F3 25 w 0 0) 2 (voff N) 0 0) 0 0 0 0) := by
    rw [dkS_31 (by rw [E3.1.2.2.1.1]; omega), od_bS]
    dsimp only
    unfold dk_224
    rw [pm_la_ne (by omega) (by omega), h50, dkS_31 (by rw [e4.1.2.2.1.1]; show W.length + 1 < 4000; omega), od_bS]
    dsimp only
    rw [dkS_31 (by rw [e5.1.2.2.1.1]; show W.length + 2 < 4000; omega), od_bS, od_bS]
  have f6 : rm_fr F (pm_la (pm_la (pm_la F3 25 w 0 0) 2 (voff N) 0 0) 0 0 0 0) := rm_fr_la (rm_fr_la (rm_fr_la f3r))
  have x6 : ∀ d j, ¬ d = 0 → ¬ (25 ≤ d ∧ d ≤ 28) → pm_la (pm_la (pm_la F3 25 w 0 0) 2 (voff N) 0 0) 0 0 0 0 d j = F1 d j := fun d j a b => by
    rw [pm_la_ne (by omega) (by omega), pm_la_ne (by omega) (by omega), pm_la_ne (by omega) (by omega), x3 d j a]
  generalize pm_la (pm_la (pm_la F3 25 w 0 0) 2 (voff N) 0 0) 0 0 0 0 = F6 at *
  have g6 := hgo _ (rgo_i hd (by decide) e6.1.1.1 f6)
  have k3a : ∀ d j, (17 ≤ d ∧ d ≤ 23) ∨ (12 ≤ d ∧ d ≤ 15 ∧ j < s ∧ ¬ (d = 14 ∧ j = sc)) ∨ (d = 16 ∧ j < ns) ∨ d = 62 ∨ d = 65 ∨ d = 61 ∨ d = 60 → K3 d j = G d j := fun d j q => (f3 d j (by omega) (by omega) (by omega)).trans (kx d j q)
  have k3b : K3 12 s = 21 ∧ K3 14 s = d0 ∧ K3 14 sc = s + 1 := ⟨(f3 12 s (by omega) (by omega) (by omega)).trans k1, (f3 14 s (by omega) (by omega) (by omega)).trans k2, (f3 14 sc (by omega) (by omega) (by omega)).trans k3⟩
  have x6b : F6 20 w = 21 ∧ F6 21 w = e0 ∧ F6 21 wc = w + 1 := ⟨(x6 20 w (by decide) (by omega)).trans y1a, (x6 21 w (by decide) (by omega)).trans y1b, (x6 21 wc (by decide) (by omega)).trans y1c⟩
  have x6c : ∀ d j, (12 ≤ d ∧ d ≤ 24) → ¬ (20 ≤ d ∧ d ≤ 23 ∧ j = w) → ¬ (d = 21 ∧ j = wc) → F6 d j = F d j := fun d j a b e => (x6 d j (by omega) (by omega)).trans (x1 d j (by omega) b e)
  have hJR : ∀ j ∈ JR, j < w := fun j hj => by
    rcases hbo.2 with ⟨v, L0, _, a, _⟩ | ⟨_, _, a, _⟩
    · exact jc_lt a j hj
    · rw [a] at hj; exact absurd hj (List.not_mem_nil)
  have hJC : ∀ j ∈ JC, j < s := fun j hj => by
    rcases hbo.2 with ⟨v, L0, _, _, a, _⟩ | ⟨_, _, _, a⟩
    · exact jc_lt a j hj
    · rw [a] at hj; exact absurd hj (List.not_mem_nil)
  have hbo6 : bo N L F6 K3 (w + 1) (s + 1) JR JC := bo_y hbo (fun j hj => x6c 21 j (by omega) (by have := hJR j hj; omega) (fun z => mem_ne hj hwc.2.2 (List.mem_singleton.mpr z.2))) (fun j hj => k3a 14 j (by have := hJC j hj; have : ¬ j = sc := fun z => mem_ne hj hsc.2.2.1 (List.mem_singleton.mpr z); omega)) (k3a 65 _ (by omega)) (by omega) (by omega)
  refine wok_b (cb_ok (cb := cb) (k := k) hM hn hc0 hO (by omega) hBk (by omega) (by omega) e6.1 e6.2.1 e6.2.2.1 ⟨by omega, by omega, by omega, by omega, m5, m6, by omega, by show W.length + 1 ≤ _; omega, m9, m10, m11, m12⟩ (by show W.length + 1 ≤ _; omega) hbo6 hib hfs) fun r K7 h7 => ?_
  dsimp only
  rcases h7 with ⟨i7, w7, s7, nw7, ns7, np7, ls7, cs7, H7, L7, Jr, Jc, g7, ge7, u1, u2, u3, u4, u5⟩ | ⟨e, p, ho, hx'⟩
  rotate_left
  · exact wok_m (sxy_112b hx' (by omega) (okj_p (by omega)) (okj_n (by decide)) hn) fun r K h => Or.inr ⟨e, p, rm_to_out g6.1 g6.2 ho, sx_le h (by omega)⟩
  have i7M := ge7.1.1.2.2.1
  have n7 : np7 ≤ 50 := ge7.2.2.2.2.2.1.2
  have p7 := ge7.2.2.2.1
  have gk7 := ge7.2.2.2.2.1.2.2
  have k362 : ∀ l, l < N → K3 62 l = B0 62 l := fun l hl => (k3a 62 l (by omega)).trans (h62B l hl)
  rw [lvl_eq k362, k362 (N - 1) (by omega)] at p7
  obtain ⟨⟨l1, l2, l3, l4, l5⟩, ka7, kb7, ⟨qJ, qI⟩, sg7⟩ := p7
  -- end
  have hgo7 := fun H => ry_go (nn := nn) (H := H) ge7.1 (by show W.length < 4000; omega)
  have hba7 := fun k p => ry_ba (nn := nn) (k := k) (p := p) ge7.1 (by show W.length < 4000; omega)
  have r8 := ry_pop ge7.1
  have b8 : bz N off voff ph cx c np7 (wq_up H7 0 46 W.length) ls7 K7 cs7 := bz_fu ge7.2.2.1 (by omega)
  have f8 : rm_fr H7 (wq_up H7 0 46 W.length) := rm_fr_up (rm_fr_refl _) (by decide) (by decide)
  have x8 : ∀ d j, ¬ d = 0 → wq_up H7 0 46 W.length d j = H7 d j := fun d j q => wq_up_cell q
  have h34 : dk_32 nn (wq_up H7 0 46 W.length) (25, w, 0, 0).1 (25, w, 0, 0).2.1 (25, w, 0, 0).2.2.1 (25, w, 0, 0).2.2.2 = dk_260 nn (wq_up H7 0 46 W.length) w := by
    show dk_32 nn (wq_up H7 0 46 W.length) 25 w 0 0 = _
    rw [dk32_25b]
  generalize dk_32 nn (wq_up H7 0 46 W.length) (25, w, 0, 0).1 (25, w, 0, 0).2.1 (25, w, 0, 0).2.2.1 (25, w, 0, 0).2.2.2 = m8' at *
  generalize wq_up H7 0 46 W.length = H8 at *
  have hEr : ∀ j ∈ Er, j < w := jc_lt hch.1
  have hEc : ∀ j ∈ Ec, j < s := jc_lt hch.2.1
  have h7w : ∀ d j, 20 ≤ d → d ≤ 23 → j < w + 1 → H7 d j = F6 d j := fun d j a b e => ka7.1 d j a b e
  have e8 : jc (H8 21) w w7 (w :: Er) := by
    refine ⟨rfl, by omega, ?_⟩
    rw [x8 21 w (by decide), h7w 21 w (by decide) (by decide) (by omega), x6b.2.1]
    exact jc_ext hch.1 (fun j hj => by
      have := hEr j hj
      rw [x8 21 j (by decide), h7w 21 j (by decide) (by decide) (by omega), x6c 21 j (by omega) (by omega) (fun z => mem_ne hj hwc.2.1 (List.mem_singleton.mpr z.2))])
  rw [dkS_260 e8 r8.2.1.2.1 (by omega) hn2] at h34
  have r9 : ry T n M i7 ls7 t w7 nw7 np7 W L7 P (jl_up H8 21 (w :: Er) w7) := ry_jl r8
  have b9 : bz N off voff ph cx c np7 (jl_up H8 21 (w :: Er) w7) ls7 K7 cs7 := bz_F b8 (bzF_jl (bzF_refl _))
  have f9 : rm_fr H7 (jl_up H8 21 (w :: Er) w7) := rm_fr_x f8 (fun d j a b e => jl_ne (by omega)) ⟨jl_ne (by omega), jl_ne (by omega), jl_ne (by omega)⟩
  have x9 : ∀ d j, ¬ d = 0 → jl_up H8 21 (w :: Er) w7 d j = jl_up H7 21 (w :: Er) w7 d j := fun d j q => by
    unfold jl_up
    rw [x8 d j q]
  generalize jl_up H8 21 (w :: Er) w7 = H9 at *
  unfold dk_122_112
  refine wok_b (e_wd (cb := cb) (x := 6) (B := 6250) hM r9 ge7.2.1 b9 (by decide) hn hc0 hO (by omega) (by omega) n7 (by omega)) fun r K10 h10 => ?_
  dsimp only
  rcases h10 with ⟨ms10, iM10, e10, E10, f10⟩ | ⟨kk, e10, hx'⟩
  rotate_left
  · have ho := hba7 _ _ (rba_f (h34.trans e10) f9 (by rw [r9.2.1.2.1]; omega))
    refine wok_b (sx_159 hx' (by omega) (okj_n (by decide)) hn) fun r K h => ?_
    exact wok_b (sx_159 h (by omega) (okj_p (by omega)) hn) fun r K h => wok_r (Or.inr ⟨_, _, rm_to_out g6.1 g6.2 (rm_to_out g7.1 g7.2 ho), sx_le h (by omega)⟩)
  have g10 := hgo7 _ (rgo_i (h34.trans e10) (by decide) E10.1.1.1 (rm_fr_up f9 (by decide) (by decide)))
  have x10 : ∀ d j, ¬ d = 0 → wq_up H9 0 25 (i7 + 1) d j = jl_up H7 21 (w :: Er) w7 d j := fun d j q => (wq_up_cell q).trans (x9 d j q)
  have k10 : ∀ d j, 10 < d → ¬ d = 57 → K10 d j = K7 d j := fun d j a b => f10 d j (by omega) (by omega) (by omega)
  generalize wq_up H9 0 25 (i7 + 1) = H10 at *
  have s10 : K10 11 4 = s7 := E10.2.1.2.1.1
  rw [dkS_159 (L := []) (show jc (K10 14) 4294967295 10000 [] from ⟨by decide, by decide⟩) hn, od_bS, jl_nil]
  dsimp only
  have k7s : ∀ d j, 12 ≤ d → d ≤ 15 → j < s + 1 → K10 d j = K3 d j := fun d j a b e => (k10 d j (by omega) (by omega)).trans (kb7.1 d j a b e)
  have e11 : jc (K10 14) s 10000 (s :: Ec) := by
    refine ⟨rfl, by omega, ?_⟩
    rw [k7s 14 s (by decide) (by decide) (by omega), k3b.2.1]
    exact jc_ext hch.2.1 (fun j hj => by
      have := hEc j hj
      have hne : ¬ j = sc := fun z => mem_ne hj hsc.2.1 (List.mem_singleton.mpr z)
      rw [k7s 14 j (by decide) (by decide) (by omega), k3a 14 j (by omega)])
  rw [dkS_159 e11 hn, od_bS, s10]
  refine wok_r ?_
  dsimp only
  have c12 : cy T n G0 c0 O (i7 + 1) ms10 s7 ns7 np7 N Q (jl_up K10 14 (s :: Ec) s7) := cy_jl E10.2.1 (okj_p (by omega))
  have b12 : bz N off voff ph cx c np7 H10 ls7 (jl_up K10 14 (s :: Ec) s7) ms10 := bz_G E10.2.2.1 (bzG_jl (bzG_refl _)) (fun l _ => jl_ne (by omega))
  have k12 : ∀ d j, 10 < d → ¬ d = 57 → jl_up K10 14 (s :: Ec) s7 d j = jl_up K7 14 (s :: Ec) s7 d j := fun d j a b => by
    unfold jl_up
    rw [k10 d j a b]
  generalize jl_up K10 14 (s :: Ec) s7 = K12 at *
  have mr : ∀ j ∈ w :: Er, j ≤ w := fun j hj => (List.mem_cons.mp hj).elim (fun z => by omega) (fun z => by have := hEr j z; omega)
  have mc : ∀ j ∈ s :: Ec, j ≤ s := fun j hj => (List.mem_cons.mp hj).elim (fun z => by omega) (fun z => by have := hEc j z; omega)
  have nwc : ¬ wc ∈ w :: Er := fun z => (List.mem_cons.mp z).elim (fun y => by omega) hwc.2.1
  have nsc : ¬ sc ∈ s :: Ec := fun z => (List.mem_cons.mp z).elim (fun y => by omega) hsc.2.1
  have y12 : H10 21 wc = w + 1 := by
    rw [x10 21 wc (by decide), jl_ne (fun z => nwc z.2), h7w 21 wc (by decide) (by decide) (by omega)]
    exact x6b.2.2
  have y12c : K12 14 sc = s + 1 := by
    rw [k12 14 sc (by omega) (by omega), jl_ne (fun z => nsc z.2), ← k10 14 sc (by omega) (by omega), k7s 14 sc (by decide) (by decide) (by omega)]
    exact k3b.2.2
  have y20 : H10 20 w = 21 ∧ H10 21 w = w7 := ⟨by rw [x10 20 w (by decide), jl_ne (by omega), h7w 20 w (by decide) (by decide) (by omega)]; exact x6b.1, by rw [x10 21 w (by decide), jl_at (List.mem_cons_self ..)]⟩
  have y20c : K12 12 s = 21 ∧ K12 14 s = s7 := ⟨by rw [k12 12 s (by omega) (by omega), jl_ne (by omega), ← k10 12 s (by omega) (by omega), k7s 12 s (by decide) (by decide) (by omega)]; exact k3b.1, by rw [k12 14 s (by omega) (by omega), jl_at (List.mem_cons_self ..)]⟩
  have lt7 := ge7.2.2.2.2.2.2.2.2
  have bo7 := ge7.2.2.2.2.2.2.2.1
  have nJ : ∀ j ∈ Jr ++ JR, ¬ j ∈ w :: Er := fun j hj hz => (List.mem_append.mp hj).elim (fun z => by have := qJ j z; have := mr j hz; omega) (fun z => (List.mem_cons.mp hz).elim (fun y => by have := hJR j z; omega) (fun y => hch.2.2.1 j y z))
  have nJc : ∀ j ∈ Jc ++ JC, ¬ j ∈ s :: Ec := fun j hj hz => (List.mem_append.mp hj).elim (fun z => by have := qI j z; have := mc j hz; omega) (fun z => (List.mem_cons.mp hz).elim (fun y => by have := hJC j z; omega) (fun y => hch.2.2.2 j y z))
  have kaZ : ka (jl_up (jl_up F 21 [wc] (w + 1)) 21 Er w7) H10 w nw np (lvl N B0) := by
    refine ⟨fun d p a b e => ?_, fun x hx => ?_, fun z hz hl => ?_, fun z hz => ?_⟩
    · rw [x10 d p (by omega)]
      unfold jl_up
      by_cases q1 : d = 21 ∧ p ∈ Er
      · rw [if_pos q1, if_pos ⟨q1.1, List.mem_cons_of_mem _ q1.2⟩]
      · rw [if_neg q1, if_neg (fun z => (List.mem_cons.mp z.2).elim (fun y => by omega) (fun y => q1 ⟨z.1, y⟩)), h7w d p a b (by omega)]
        by_cases q2 : d = 21 ∧ p ∈ [wc]
        · rw [if_pos q2, q2.1, List.mem_singleton.mp q2.2]
          exact x6b.2.2
        · rw [if_neg q2, x6c d p (by omega) (by omega) (fun z => q2 ⟨z.1, List.mem_singleton.mpr z.2⟩)]
    · rw [x10 24 x (by decide), jl_ne (by omega), jl_ne (by omega), jl_ne (by omega), ka7.2.1 x hx, x6c 24 x (by omega) (by omega) (by omega)]
    · have y := ka7.2.2.1 z hz hl
      have nn' : ∀ d j, 12 ≤ d ∧ d ≤ 19 → H10 d j = H7 d j ∧ jl_up (jl_up F 21 [wc] (w + 1)) 21 Er w7 d j = F6 d j := fun d j q => ⟨by rw [x10 d j (by omega), jl_ne (by omega)], by rw [jl_ne (by omega), jl_ne (by omega), x6c d j (by omega) (by omega) (by omega)]⟩
      rw [(nn' 12 z (by decide)).1, (nn' 12 z (by decide)).2, (nn' 13 z (by decide)).1, (nn' 13 z (by decide)).2, (nn' 15 z (by decide)).1, (nn' 15 z (by decide)).2, (nn' 16 z (by decide)).1, (nn' 16 z (by decide)).2]
      refine ⟨y.1, fun x hx => ?_⟩
      rw [(nn' 18 _ (by decide)).1, (nn' 18 _ (by decide)).2, (nn' 19 _ (by decide)).1, (nn' 19 _ (by decide)).2]
      exact y.2 x hx
    · have nn' : ∀ d j, 12 ≤ d ∧ d ≤ 19 → H10 d j = H7 d j ∧ jl_up (jl_up F 21 [wc] (w + 1)) 21 Er w7 d j = F6 d j := fun d j q => ⟨by rw [x10 d j (by omega), jl_ne (by omega)], by rw [jl_ne (by omega), jl_ne (by omega), x6c d j (by omega) (by omega) (by omega)]⟩
      rw [(nn' 12 z (by decide)).1, (nn' 12 z (by decide)).2, (nn' 13 z (by decide)).1, (nn' 13 z (by decide)).2, (nn' 15 z (by decide)).1, (nn' 15 z (by decide)).2]
      exact ka7.2.2.2 z hz
  have kbZ : kb (jl_up (jl_up G 14 [sc] (s + 1)) 14 Ec s7) K12 s ns np (lvl N B0) := by
    have nn' : ∀ d j, 17 ≤ d ∧ d ≤ 23 → K12 d j = K7 d j ∧ jl_up (jl_up G 14 [sc] (s + 1)) 14 Ec s7 d j = K3 d j := fun d j q => ⟨by rw [k12 d j (by omega) (by omega), jl_ne (by omega)], by rw [jl_ne (by omega), jl_ne (by omega), k3a d j (by omega)]⟩
    refine ⟨fun d p a b e => ?_, fun x hx => ?_, fun z hz hl => ?_, fun z hz => ?_⟩
    · rw [k12 d p (by omega) (by omega)]
      unfold jl_up
      by_cases q1 : d = 14 ∧ p ∈ Ec
      · rw [if_pos q1, if_pos ⟨q1.1, List.mem_cons_of_mem _ q1.2⟩]
      · rw [if_neg q1, if_neg (fun z => (List.mem_cons.mp z.2).elim (fun y => by omega) (fun y => q1 ⟨z.1, y⟩)), kb7.1 d p a b (by omega)]
        by_cases q2 : d = 14 ∧ p ∈ [sc]
        · rw [if_pos q2, q2.1, List.mem_singleton.mp q2.2]
          exact k3b.2.2
        · have q3 : ¬ (d = 14 ∧ p = sc) := fun z => q2 ⟨z.1, List.mem_singleton.mpr z.2⟩
          rw [if_neg q2, k3a d p (by omega)]
    · rw [k12 16 x (by omega) (by omega), jl_ne (by omega), jl_ne (by omega), jl_ne (by omega), kb7.2.1 x hx, k3a 16 x (by omega)]
    · have y := kb7.2.2.1 z hz hl
      rw [(nn' 17 z (by decide)).1, (nn' 17 z (by decide)).2, (nn' 18 z (by decide)).1, (nn' 18 z (by decide)).2, (nn' 20 z (by decide)).1, (nn' 20 z (by decide)).2, (nn' 22 z (by decide)).1, (nn' 22 z (by decide)).2]
      refine ⟨y.1, fun x hx => ?_⟩
      rw [(nn' 23 _ (by decide)).1, (nn' 23 _ (by decide)).2]
      exact y.2 x hx
    · rw [(nn' 17 z (by decide)).1, (nn' 17 z (by decide)).2, (nn' 18 z (by decide)).1, (nn' 18 z (by decide)).2, (nn' 19 z (by decide)).1, (nn' 19 z (by decide)).2]
      exact kb7.2.2.2 z hz
  -- where both go on
  have S2 : sgu ls7 ms10 H10 K12 (B0 62 (N - 1)) w w7 s s7 nw nw7 ns ns7 np np7 c Jr Jc cb (B0 62 (N - 1), w + 1, s + 1, c) := fun H J nm X wb sb a1 a2 a3 a4 a5 a6 => by
    refine sg7 H J nm X wb sb (ag_r a1 ⟨by omega, Nat.le_refl _⟩ ⟨Nat.le_refl _, Nat.le_refl _⟩ ⟨Nat.le_refl _, Nat.le_refl _⟩ (fun d p x1 x2 x3' x4 => ?_) (fun x _ _ => ?_) (fun z _ _ => ?_) ?_) (bg_r a2 ⟨by omega, Nat.le_refl _⟩ ⟨Nat.le_refl _, Nat.le_refl _⟩ ⟨Nat.le_refl _, Nat.le_refl _⟩ (fun d p x1 x2 x3' x4 => ?_) (fun x _ _ => ?_) (fun z _ _ => ?_)) (nmr_up a3 (st_pre_refl _) E10.2.2.2.2.1.2.1) a4 a5 a6
    · unfold jl_up
      by_cases q : d = 21 ∧ p ∈ Jr
      · rw [if_pos q, if_pos q]
      · rw [if_neg q, if_neg q, x10 d p (by omega), jl_ne (fun z => by have := mr p z.2; omega)]
    · rw [jl_ne (by omega), jl_ne (by omega), x10 24 x (by decide), jl_ne (by omega)]
    · have nn' : ∀ d j, 12 ≤ d ∧ d ≤ 19 → jl_up H10 21 Jr wb d j = jl_up H7 21 Jr wb d j := fun d j q => by rw [jl_ne (by omega), jl_ne (by omega), x10 d j (by omega), jl_ne (by omega)]
      exact ⟨⟨nn' 12 z (by decide), nn' 13 z (by decide), nn' 15 z (by decide), nn' 16 z (by decide)⟩, fun x hx => ⟨nn' 18 _ (by decide), nn' 19 _ (by decide)⟩⟩
    · rw [jl_ne (by omega), jl_ne (by omega), x10 15 _ (by decide), jl_ne (by omega)]
      exact Nat.le_refl _
    · unfold jl_up
      by_cases q : d = 14 ∧ p ∈ Jc
      · rw [if_pos q, if_pos q]
      · rw [if_neg q, if_neg q, k12 d p (by omega) (by omega), jl_ne (fun z => by have := mc p z.2; omega)]
    · rw [jl_ne (by omega), jl_ne (by omega), k12 16 x (by omega) (by omega), jl_ne (by omega)]
    · have nn' : ∀ d j, 17 ≤ d ∧ d ≤ 23 → jl_up K12 14 Jc sb d j = jl_up K7 14 Jc sb d j := fun d j q => by rw [jl_ne (by omega), jl_ne (by omega), k12 d j (by omega) (by omega), jl_ne (by omega)]
      exact ⟨⟨nn' 17 z (by decide), nn' 18 z (by decide), nn' 20 z (by decide), nn' 22 z (by decide)⟩, fun x hx => nn' 23 _ (by decide)⟩
  have S1 : sgu ls7 ms10 H10 K12 (B0 62 (N - 1)) w w7 s s7 nw nw7 ns ns7 np np7 c Jr Jc cb (B0 62 (N - 1), w, s, c) := fun H J nm X wb sb a1 a2 a3 a4 a5 a6 => by
    have t20 : H 20 w = 21 := by
      rw [a1.1 20 w (by decide) (by decide) (by omega) (by omega), jl_ne (by omega)]
      exact y20.1
    have t21 : H 21 w = w7 := by
      rw [a1.1 21 w (by decide) (by decide) (by omega) (by omega), jl_ne (fun z => by have := qJ w z.2; omega)]
      exact y20.2
    have t12 : J 12 s = 21 := by
      rw [a2.1 12 s (by decide) (by decide) (by omega) (by omega), jl_ne (by omega)]
      exact y20c.1
    have t14 : J 14 s = s7 := by
      rw [a2.1 14 s (by decide) (by decide) (by omega) (by omega), jl_ne (fun z => by have := qI s z.2; omega)]
      exact y20c.2
    refine sg_s (l := [(B0 62 (N - 1), w7, s7, c)]) (Or.inl ⟨23, t20, t12, Or.inl ?_, ?_⟩) (fun v hv => ?_)
    · show w < H 21 w
      rw [t21]
      omega
    · show _ = [(B0 62 (N - 1), H 21 w, J 14 s, c)]
      rw [t21, t14]
    · rw [List.mem_singleton.mp hv]
      exact a6
  have kz : ∀ d j, d = 62 ∨ d = 65 ∨ d = 61 ∨ d = 60 → K12 d j = K7 d j := fun d j q => by rw [k12 d j (by omega) (by omega), jl_ne (by omega)]
  refine Or.inl ⟨i7 + 1, w7, s7, nw7, ns7, np7, ls7, ms10, H10, L7, Jr, Jc, w + 1, s + 1, ⟨rm_trans g6.1 (rm_trans g7.1 g10.1), rm_fr_trans g6.2 (rm_fr_trans g7.2 g10.2)⟩, ⟨⟨E10.1, c12, b12⟩, ⟨by omega, by omega, l3, l4, l5, n7, by omega⟩, ⟨fun j hj => by have := qJ j hj; omega, fun j hj => by have := qI j hj; omega⟩, ⟨ge7.2.2.2.2.1.1, st_pre_trans E3.2.2.2.2.1.2.1 (st_pre_trans ge7.2.2.2.2.1.2.1 E10.2.2.2.2.1.2.1), ⟨fun l hl => ?_, fun l hl => ?_, fun l hl e6 h6 => ?_⟩⟩, bo_y bo7 (fun j hj => ?_) (fun j hj => ?_) (kz 65 _ (by decide)) (Nat.le_refl _) (Nat.le_refl _), lt7⟩, ⟨y12, y12c, by omega⟩, ⟨kaZ, kbZ⟩, S1, S2, by omega, by omega, by omega, by omega⟩
  · rw [kz 62 l (by decide), gk7.1 l hl, k3a 62 l (by omega)]
  · rw [kz 65 l (by decide), gk7.2.1 l hl, k3a 65 l (by omega)]
  · rw [kz e6 l (by omega), gk7.2.2 l hl e6 h6, k3a e6 l (by omega)]
  · rw [x10 21 j (by decide), jl_ne (fun z => nJ j hj z.2)]
  · rw [k12 14 j (by omega) (by omega), jl_ne (fun z => nJc j hj z.2)]
end
