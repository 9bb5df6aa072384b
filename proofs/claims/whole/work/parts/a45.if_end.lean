/-! ===== a45: if: what follows a clause's block (wip/whole2/lawa45.py) ===== -/
section
variable {nn : Nat} {T : Nat → Nat} {n M O : Nat} {G0 : wq_F} {c0 : List (List Nat)} {i t w s nw ns np N : Nat} {off voff ph : Nat → Nat} {cx : Nat → List Nat} {c cb : List Nat} {W : List (Nat × Nat × Nat × Nat)} {L : List (Nat × Nat)} {P Q : List (Nat × Nat × Nat)} {ls cs : List (List Nat)} {F G : wq_F}

variable {JR JC Er Ec : List Nat} {B0 : wq_F} {wc sc e0 d0 : Nat}
theorem mem_ne {j a : Nat} {J : List Nat} (hj : j ∈ J) (ha : ¬ a ∈ J) : ¬ j ∈ [a] := fun z => by
  rw [List.mem_singleton.mp z] at hj
  exact ha hj
/-- the chain of the ends led here, end needed -/
theorem dkL_260 {F0 : wq_F} {s0 : Nat} (hw : F0 0 41 = s0) : ∀ (J : List Nat) (g j b : Nat) (F : wq_F), jc (F 21) j b J → b ≤ 14000 → J.length < g → F 0 41 = s0 → dk_260_2 nn g F j = dk_214 (jl_up F 21 J s0) 6
  | [], 0, _, _, _, _, _, hg, _ => absurd hg (by decide)
  | [], g + 1, j, b, F, h, _, _, hs => by
    show dk_260_2b nn (dk_260_2 nn g) F j = _
    unfold dk_260_2b
    rw [if_pos h.1, jl_nil, od_bI]
  | x :: J, 0, _, _, _, _, _, hg, _ => absurd hg (Nat.not_lt_zero _)
  | x :: J, g + 1, j, b, F, h, hb, hg, hs => by
    obtain ⟨h1, h2, h3⟩ := h
    show dk_260_2b nn (dk_260_2 nn g) F j = _
    unfold dk_260_2b
    rw [h1, if_neg (by omega), od_g1 (by omega), od_g1 (by omega), od_upS, hs]
    have hlt := jc_lt h3
    have h3' : jc (wq_up F 21 x s0 21) (F 21 x) x J := jc_ext h3 (fun k hk => wq_up_at (by have := hlt k hk; omega))
    have hl : (x :: J).length = J.length + 1 := rfl
    rw [dkL_260 hw J g (F 21 x) x (wq_up F 21 x s0) h3' (by omega) (by omega) ((wq_up_cell (by decide)).trans hs), jl_cons]
theorem dkS_260 {J : List Nat} {j : Nat} (h : jc (F 21) j w J) (hw : F 0 41 = w) (hw2 : w < 14000) (hn : 14000 < nn) : dk_260 nn F j = dk_214 (jl_up F 21 J w) 6 := by
  unfold dk_260
  exact dkL_260 hw J nn j w F h (by omega) (by have := jc_len h; omega) hw
theorem bo_y {w' s' : Nat} {A B H K : wq_F} {Jr Jc : List Nat} (h : bo N L A B w s Jr Jc) (hF : ∀ j ∈ Jr, H 21 j = A 21 j) (hG : ∀ j ∈ Jc, K 14 j = B 14 j) (h65 : K 65 (N - 1) = B 65 (N - 1)) (hw : w ≤ w') (hs : s ≤ s') : bo N L H K w' s' Jr Jc := by
  obtain ⟨h1, h2⟩ := h
  refine ⟨h1, ?_⟩
  rw [h65]
  rcases h2 with ⟨v, L0, a, b, d, e⟩ | h2
  · exact Or.inl ⟨v, L0, a, jc_le (jc_ext b (fun j hj => hF j hj)) hw, jc_le (jc_ext d (fun j hj => hG j hj)) hs, e⟩
  · exact Or.inr h2
theorem sx_112b {R : dk_Rt} {e p B v2 v3 : Nat} (hx : sx T n G0 c0 O e p N B G) (hB : B < 10000) (h2 : okj v2) (h3 : okj v3) (hn : 10000 < nn) : wok (dk_122_112 R nn G v2 v3) (fun _ K => sx T n G0 c0 O e p N B K) := by
  unfold dk_122_112
  refine wok_b (sx_110 hx (by decide)) fun r K h => ?_
  refine wok_b (sx_159 h hB h3 hn) fun r K h => ?_
  exact wok_b (sx_159 h hB h2 hn) fun r K h => wok_r h
theorem sx_122 {R : dk_Rt} {g d v2 v3 x e p B : Nat} (hx : sx T n G0 c0 O e p N B G) (hB : B < 10000) (h2 : okj v2) (h3 : okj v3) (hn : 10000 < nn) : wok (dk_122_15 R nn (g + 1) G d v2 v3 x) (fun _ K => sx T n G0 c0 O e p N B K) := by
  show wok (dk_122_15b R nn (dk_122_15 R nn g) G d v2 v3 x) _
  unfold dk_122_15b dk_122_69
  exact wok_i (fun _ => wok_f (sx_ne hx (by decide)) (sx_112b hx hB h2 h3 hn)) (fun _ => wok_f (sx_ne hx (by decide)) (wok_f (sx_ne hx (by decide)) (sx_112b hx hB h2 h3 hn)))
theorem sxy_ne {x e p B : Nat} (h : sxy T n G0 c0 O e p N B G) (h5 : ¬ 5 = x) (hx : ¬ (x = 49 ∨ x = 59)) : ¬ G 57 4 = x := h.elim (fun h => sx_ne h h5) (fun h => sy_ne h.2 hx)
theorem sxy_112b {R : dk_Rt} {e p B v2 v3 : Nat} (hx : sxy T n G0 c0 O e p N B G) (hB : B < 10000) (h2 : okj v2) (h3 : okj v3) (hn : 10000 < nn) : wok (dk_122_112 R nn G v2 v3) (fun _ K => sx T n G0 c0 O e p N B K) := by
  unfold dk_122_112
  refine wok_b (sxy_110 hx (by decide) (by decide)) fun r K h => ?_
  refine wok_b (sx_159 h hB h3 hn) fun r K h => ?_
  exact wok_b (sx_159 h hB h2 hn) fun r K h => wok_r h
theorem sxy_122 {R : dk_Rt} {g d v2 v3 x e p B : Nat} (hx : sxy T n G0 c0 O e p N B G) (hB : B < 10000) (h2 : okj v2) (h3 : okj v3) (hn : 10000 < nn) : wok (dk_122_15 R nn (g + 1) G d v2 v3 x) (fun _ K => sx T n G0 c0 O e p N B K) := by
  show wok (dk_122_15b R nn (dk_122_15 R nn g) G d v2 v3 x) _
  unfold dk_122_15b dk_122_69
  exact wok_i (fun _ => wok_f (sxy_ne hx (by decide) (by decide)) (sxy_112b hx hB h2 h3 hn)) (fun _ => wok_f (sxy_ne hx (by decide) (by decide)) (wok_f (sxy_ne hx (by decide) (by decide)) (sxy_112b hx hB h2 h3 hn)))
/-- end -/
theorem if_end {D k g x : Nat} (hM : tk_M T n M) (hn : 10000 < nn) (hc0 : c0.length ≤ 1400) (hO : O ≤ 20000) (hD : D ≤ 20) (htD : t = D) (hr : ry T n M i ls t w nw np ((24, wc, e0, 0) :: W) L P F) (hc : cy T n G0 c0 O i cs s ns np N Q G) (hb : bz N off voff ph cx c np F ls G cs) (hB : bnd i w s nw ns np t (hg c) W L P Q N) (hW : W.length ≤ 20 * t) (hL1 : L.length + 1 ≤ t) (hbo : bo N L F G w s JR JC) (hib : ib N L cb c) (hfs : fs c) (hch : jc (F 21) e0 w Er ∧ jc (G 14) d0 s Ec ∧ (∀ j ∈ Er, ¬ j ∈ JR) ∧ ∀ j ∈ Ec, ¬ j ∈ JC) (hwc : wc < w ∧ ¬ wc ∈ Er ∧ ¬ wc ∈ JR) (hsc : sc < s ∧ ¬ sc ∈ Ec ∧ ¬ sc ∈ JC ∧ G 14 sc = 4294967295) (h62B : ∀ l, l < N → G 62 l = B0 62 l) (hn2 : 14000 < nn) (hx : x ≤ i) (h5 : ¬ (tk_k T n i = 4 ∧ tk_V T n (tk_pos T n i) = 5)) (h4 : ¬ (tk_k T n i = 4 ∧ tk_V T n (tk_pos T n i) = 4)) : wok (dk_122_15 (dk_R nn k) nn (g + 1) G D d0 sc x) (fun _ K => (∃ i' w' s' nw' ns' np' ls' cs' H L' Jr Jc wz sz, (rm_to nn F H ∧ rm_fr F H) ∧ ifs T n M G0 c0 O N off voff ph cx G i ls cs w s nw ns np c L JR JC t W P Q H K i' ls' cs' w' s' nw' ns' np' L' Jr Jc ∧ (H 21 wc = wz ∧ K 14 sc = sz ∧ w ≤ wz) ∧ (ka (jl_up (jl_up F 21 [wc] wz) 21 Er w') H w nw np (lvl N B0) ∧ kb (jl_up (jl_up G 14 [sc] sz) 14 Ec s') K s ns np (lvl N B0)) ∧ sgu ls' cs' H K (B0 62 (N - 1)) w w' s s' nw nw' ns ns' np np' c Jr Jc cb (B0 62 (N - 1), w, s, c) ∧ sgu ls' cs' H K (B0 62 (N - 1)) w w' s s' nw nw' ns ns' np np' c Jr Jc cb (B0 62 (N - 1), wz, sz, c) ∧ w' + 6 * i ≤ w + 6 * i' ∧ s' + 4 * i ≤ s + 4 * i' ∧ nw' + i ≤ nw + i' ∧ ns' + i ≤ ns + i') ∨ ∃ e p, rm_out nn e p F ∧ sx T n G0 c0 O e p N (zz D + 95) K) := by
  have hz : 6200 ≤ zz D ∧ zz D < 9800 := by unfold zz; omega
  obtain ⟨m1, m2, m3, m4, m5, m6, m7, m8, m9, m10, m11, m12⟩ := hB
  have hM1 := hM.1
  have hiM := hr.1.2.2.1
  have hN := hb.1.1
  have h57 : G 57 4 = tk_ty T n (tk_pos T n i) := hc.1.2.1.1
  have hd0 : okj d0 := by
    have y := hch.2.1
    cases Ec with
    | nil => exact okj_n y
    | cons z Z => exact okj_p (by have := y.1; have := y.2.1; omega)
  have hgo := fun H => ry_go (nn := nn) (H := H) hr (by show W.length < 4000; omega)
  have hba := fun k p => ry_ba (nn := nn) (k := k) (p := p) hr (by show W.length < 4000; omega)
  have r1 := ry_pop hr
  have h33 : dk_32 nn (wq_up F 0 46 W.length) (24, wc, e0, 0).1 (24, wc, e0, 0).2.1 (24, wc, e0, 0).2.2.1 (24, wc, e0, 0).2.2.2 = dk_259 nn (wq_up F 0 46 W.length) wc e0 := by
    show dk_32 nn (wq_up F 0 46 W.length) 24 wc e0 0 = _
    rw [dk32_24b]
  have b1 : bz N off voff ph cx c np (wq_up F 0 46 W.length) ls G cs := bz_fu hb (by omega)
  have f1 : rm_fr F (wq_up F 0 46 W.length) := rm_fr_up (rm_fr_refl _) (by decide) (by decide)
  have x1 : ∀ d j, ¬ d = 0 → wq_up F 0 46 W.length d j = F d j := fun d j q => wq_up_cell q
  generalize dk_32 nn (wq_up F 0 46 W.length) (24, wc, e0, 0).1 (24, wc, e0, 0).2.1 (24, wc, e0, 0).2.2.1 (24, wc, e0, 0).2.2.2 = mm at *
  generalize wq_up F 0 46 W.length = F1 at *
  have hw1 : F1 0 41 = w := r1.2.1.2.1
  unfold dk_259 at h33
  rw [pm_isWord hM r1.1 (by decide), od_bS] at h33
  dsimp only at h33
  rw [if_ck, if_neg h5, pm_isWord hM r1.1 (by decide), od_bS] at h33
  dsimp only at h33
  rw [if_ck, if_neg h4, od_g1 (by omega), od_upS, hw1] at h33
  have e1 : jc (wq_up F1 21 wc w 21) e0 w Er := jc_ext hch.1 (fun j hj => (wq_up_at (show ¬ j = wc from fun z => hwc.2.1 (z ▸ hj))).trans (x1 21 j (by decide)))
  rw [od_bI, dkS_260 e1 ((wq_up_cell (by decide)).trans hw1) (by omega) hn2] at h33
  have r2 : ry T n M i ls t w nw np W L P (jl_up (wq_up F1 21 wc w) 21 Er w) := ry_jl (ry_up r1 (by unfold ry_n; omega))
  have b2 : bz N off voff ph cx c np (jl_up (wq_up F1 21 wc w) 21 Er w) ls G cs := bz_F b1 (bzF_jl (bzF_up (bzF_refl _) (by omega)))
  have f2 : rm_fr F (jl_up (wq_up F1 21 wc w) 21 Er w) := rm_fr_x (rm_fr_up f1 (by decide) (fun z => absurd z (by decide))) (fun d j a b e => jl_ne (by omega)) ⟨jl_ne (by omega), jl_ne (by omega), jl_ne (by omega)⟩
  have x2 : ∀ d j, ¬ d = 0 → jl_up (wq_up F1 21 wc w) 21 Er w d j = jl_up (jl_up F 21 [wc] w) 21 Er w d j := fun d j q => by
    unfold jl_up
    by_cases z : d = 21 ∧ j ∈ Er
    · rw [if_pos z, if_pos z]
    · rw [if_neg z, if_neg z]
      by_cases y : d = 21 ∧ j = wc
      · rw [if_pos ⟨y.1, List.mem_singleton.mpr y.2⟩, y.1, y.2, wq_up_same]
      · rw [if_neg (fun u => y ⟨u.1, List.mem_singleton.mp u.2⟩), wq_up_ne y, x1 d j q]
  generalize jl_up (wq_up F1 21 wc w) 21 Er w = F2 at *
  show wok (dk_122_15b (dk_R nn k) nn (dk_122_15 (dk_R nn k) nn g) G D d0 sc x) _
  unfold dk_122_15b dk_122_69 dk_122_112
  refine wok_f (fun z => by have := (wd_slt (by decide) (by omega)).mp z; omega) ?_
  refine wok_f (fun z => h5 ((tk_ty_word (w := 5) (by decide)).mp (h57.symm.trans z))) ?_
  refine wok_f (fun z => h4 ((tk_ty_word (w := 4) (by decide)).mp (h57.symm.trans z))) ?_
  refine wok_b (e_wd (cb := cb) (x := 6) (B := 6240) hM r2 hc b2 (by decide) hn hc0 hO (by omega) (by omega) m5 (by omega)) fun r K1 h1 => ?_
  dsimp only
  rcases h1 with ⟨ms, iM, e3, E3, f3⟩ | ⟨kk, e3, hx'⟩
  rotate_left
  · have ho := hba _ _ (rba_f (h33.trans e3) f2 (by rw [r2.2.1.2.1]; omega))
    refine wok_b (sx_159 hx' (by omega) (okj_p (by omega)) hn) fun r K h => ?_
    exact wok_b (sx_159 h (by omega) hd0 hn) fun r K h => wok_r (Or.inr ⟨_, _, ho, sx_le h (by omega)⟩)
  have g3 := hgo _ (rgo_i (h33.trans e3) (by decide) E3.1.1.1 (rm_fr_up f2 (by decide) (by decide)))
  have x3 : ∀ d j, ¬ d = 0 → wq_up F2 0 25 (i + 1) d j = jl_up (jl_up F 21 [wc] w) 21 Er w d j := fun d j q => (wq_up_cell q).trans (x2 d j q)
  have k3 : ∀ d j, (17 ≤ d ∧ d ≤ 23) ∨ (12 ≤ d ∧ d ≤ 15) ∨ d = 16 ∨ d = 62 ∨ d = 65 ∨ d = 61 ∨ d = 60 → K1 d j = G d j := fun d j q => f3 d j (by omega) (by omega) (by omega)
  generalize wq_up F2 0 25 (i + 1) = F3 at *
  have k14 : K1 14 sc = 4294967295 := (k3 14 _ (by omega)).trans hsc.2.2.2
  have hs1 : K1 11 4 = s := E3.2.1.2.1.1
  rw [dkS_159 (L := [sc]) ⟨rfl, by omega, by rw [k14]; exact ⟨by decide, by decide⟩⟩ hn, od_bS, hs1]
  dsimp only
  have e5 : jc (jl_up K1 14 [sc] s 14) d0 s Ec := jc_ext hch.2.1 (fun j hj => by
    rw [jl_ne (fun z => mem_ne hj hsc.2.1 z.2)]
    exact k3 14 j (by omega))
  rw [dkS_159 (jc_le e5 (by omega)) hn, od_bS, jl_ne (show ¬ ((11 : Nat) = 14 ∧ 4 ∈ [sc]) by omega), hs1]
  refine wok_r ?_
  dsimp only
  have c6 : cy T n G0 c0 O (i + 1) ms s ns np N Q (jl_up (jl_up K1 14 [sc] s) 14 Ec s) := cy_jl (cy_jl E3.2.1 (okj_p (by omega))) (okj_p (by omega))
  have b6 : bz N off voff ph cx c np F3 ls (jl_up (jl_up K1 14 [sc] s) 14 Ec s) ms := bz_G (bz_G E3.2.2.1 (bzG_jl (bzG_refl _)) (fun l _ => jl_ne (by omega))) (bzG_jl (bzG_refl _)) (fun l _ => jl_ne (by omega))
  have k6 : ∀ d j, (17 ≤ d ∧ d ≤ 23) ∨ (12 ≤ d ∧ d ≤ 15) ∨ d = 16 ∨ d = 62 ∨ d = 65 ∨ d = 61 ∨ d = 60 → jl_up (jl_up K1 14 [sc] s) 14 Ec s d j = jl_up (jl_up G 14 [sc] s) 14 Ec s d j := fun d j q => by
    unfold jl_up
    rw [k3 d j q]
  have y6 : jl_up (jl_up K1 14 [sc] s) 14 Ec s 14 sc = s := by
    rw [jl_ne (fun z => hsc.2.1 z.2), jl_at (List.mem_singleton.mpr rfl)]
  have z6 : ∀ d j, ¬ d = 14 → jl_up (jl_up K1 14 [sc] s) 14 Ec s d j = K1 d j := fun d j q => by rw [jl_ne (fun z => q z.1), jl_ne (fun z => q z.1)]
  have y3 : F3 21 wc = w := by
    rw [x3 21 wc (by decide), jl_ne (fun z => hwc.2.1 z.2), jl_at (List.mem_singleton.mpr rfl)]
  generalize jl_up (jl_up K1 14 [sc] s) 14 Ec s = K6 at *
  refine Or.inl ⟨i + 1, w, s, nw, ns, np, ls, ms, F3, L, [], [], w, s, g3, ⟨⟨E3.1, c6, b6⟩, ⟨by omega, by omega, by omega, by omega, by omega, m5, by omega⟩, ⟨fun j hj => absurd hj (List.not_mem_nil), fun j hj => absurd hj (List.not_mem_nil)⟩, ⟨st_sf_refl _, E3.2.2.2.2.1.2.1, ⟨fun l _ => (z6 62 l (by decide)).trans (k3 62 l (by omega)), fun l _ => (z6 65 l (by decide)).trans (k3 65 l (by omega)), fun l _ e6 h6 => (z6 e6 l (by omega)).trans (k3 e6 l (by omega))⟩⟩, bo_y hbo (fun j hj => ?_) (fun j hj => ?_) ((z6 65 _ (by decide)).trans (k3 65 _ (by omega))) (Nat.le_refl _) (Nat.le_refl _), lt2_refl⟩, ⟨y3, y6, Nat.le_refl _⟩, ⟨ka_x (fun d j q => x3 d j (by omega)), kb_x (fun d j q => k6 d j (by omega))⟩, fun _ _ _ _ _ _ _ _ _ _ _ z => z, fun _ _ _ _ _ _ _ _ _ _ _ z => z, by omega, by omega, by omega, by omega⟩
  · rw [x3 21 j (by decide), jl_ne (fun z => hch.2.2.1 j z.2 hj), jl_ne (fun z => mem_ne hj hwc.2.2 z.2)]
  · rw [k6 14 j (by omega), jl_ne (fun z => hch.2.2.2 j z.2 hj), jl_ne (fun z => mem_ne hj hsc.2.2.1 z.2)]
end
