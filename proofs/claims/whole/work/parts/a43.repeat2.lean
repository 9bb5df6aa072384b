/-! ===== a43: repeat .. until, the statement (wip/whole2/lawa43.py) ===== -/
section
variable {nn : Nat} {T : Nat → Nat} {n M O : Nat} {G0 : wq_F} {c0 : List (List Nat)} {i t w s nw ns np N : Nat} {off voff ph : Nat → Nat} {cx : Nat → List Nat} {c cb : List Nat} {W : List (Nat × Nat × Nat × Nat)} {L : List (Nat × Nat)} {P Q : List (Nat × Nat × Nat)} {ls cs : List (List Nat)} {F G : wq_F}

variable {Jr0 Jc0 : List Nat}
/-- a loop's head in the list -/
theorem lt2_head {x : Nat} {L L' : List (Nat × Nat)} (h : lt2 N ((x, N - 1) :: L) L') : ∃ v', L' = (v', N - 1) :: L := by
  have q1 := h.1
  have q2 := h.2.1
  cases L' with
  | nil => cases q2
  | cons z L0 =>
    obtain ⟨z1, z2⟩ := z
    have q3 : z2 :: L0.map Prod.snd = (N - 1) :: L.map Prod.snd := q2
    have q4 : L0 = L := q1
    injection q3 with q5 q6
    exact ⟨z1, by rw [q4, q5]⟩
theorem bo_head {v : Nat} {Jr Jc : List Nat} (h : bo N ((v, N - 1) :: L) F G w s Jr Jc) : jc (F 21) v w Jr ∧ jc (G 14) (G 65 (N - 1)) s Jc := by
  rcases h.2 with ⟨x, L0, e, q1, q2, _⟩ | ⟨e, _⟩
  · injection e with e1' e2'
    injection e1' with e3' e4'
    rw [e3']
    exact ⟨q1, q2⟩
  · exact absurd (e (v, N - 1) (List.mem_cons_self ..)) (Nat.lt_irrefl _)
/-- the class's end of repeat, up to the loop's end -/
theorem rp_class {h ag of0 o : Nat} {d : List Nat} (hc : cy T n G0 c0 O i cs s ns np N Q G) (hb : bz N off voff ph cx d np F ls G cs) (hn : 10000 < nn) (hs : s < 9980) (hag : ag < 10000) : ∃ K, ((dk_78 G 22 0 4294967295 0).bind fun y33 => (dk_164 y33.2).bind fun y37 => (dk_78 y37.2 21 0 y37.1 0).bind fun y41 => (dk_165 y41.2 y41.1).bind fun y45 => (dk_159 nn y45.2 y33.1).bind fun y49 => (dk_113 y49.2 h).bind fun y53 => (dk_78 y53.2 21 0 ag 0).bind fun y57 => (dk_168 y57.2 of0).bind fun y61 => (dk_120 nn y61.2 h o).bind fun y65 => some (0, y65.2)) = ((dk_120 nn K h o).bind fun y65 => some (0, y65.2)) ∧ cy T n G0 c0 O i cs (s + 1 + 1 + 1 + 1) ns np N Q K ∧ (∀ e j, ¬ (12 ≤ e ∧ e ≤ 15 ∧ s ≤ j ∧ j ≤ s + 3) → ¬ e = 11 → ¬ (e = 65 ∧ j = N - 1) → ¬ (e = 64 ∧ j = N - 1) → ¬ (e = 59 ∧ j = 3) → K e j = G e j) ∧ (K 12 s = 22 ∧ K 14 s = s + 2 ∧ K 12 (s + 1) = 21 ∧ K 14 (s + 1) = G 65 (N - 1) ∧ K 12 (s + 2) = 27 ∧ K 13 (s + 2) = h ∧ K 12 (s + 3) = 21 ∧ K 14 (s + 3) = ag) ∧ K 65 (N - 1) = s + 1 ∧ K 64 (N - 1) = h ∧ K 59 3 = of0 := by
  obtain ⟨l1, l2, l3, l4⟩ := cy_lv hc hb
  have hok : okj (G 65 (N - 1)) := hc.2.2.2.2.2 (N - 1) (by omega)
  have hs1 := hc.2.1.1
  rw [dkS_78 (by omega), od_bS]
  dsimp only
  have c1 : cy T n G0 c0 O i cs (s + 1) ns np N Q (pg_em G 22 0 4294967295 0) := cy_em hc (okj_n (by decide))
  have a1 := pg_em_at (G := G) (op := 22) (a := 0) (b := 4294967295) (ln := 0)
  have x1 : ∀ e j, ¬ (12 ≤ e ∧ e ≤ 15 ∧ j = s) → ¬ (e = 11 ∧ j = 4) → pg_em G 22 0 4294967295 0 e j = G e j := fun e j z1 z2 => pg_em_ne (by rw [hs1]; exact z1) z2
  rw [hs1] at a1
  rw [hs1]
  generalize pg_em G 22 0 4294967295 0 = K1 at *
  have k8 : K1 59 8 = N - 1 := (x1 59 8 (by omega) (by omega)).trans l1
  rw [dkS_164 (l := N - 1) k8 l2, od_bS]
  dsimp only
  have k65 : K1 65 (N - 1) = G 65 (N - 1) := x1 65 _ (by omega) (by omega)
  rw [k65, dkS_78 (by rw [c1.2.1.1]; omega), od_bS]
  dsimp only
  have c2 : cy T n G0 c0 O i cs (s + 1 + 1) ns np N Q (pg_em K1 21 0 (G 65 (N - 1)) 0) := cy_em c1 hok
  have a2 := pg_em_at (G := K1) (op := 21) (a := 0) (b := G 65 (N - 1)) (ln := 0)
  have x2 : ∀ e j, ¬ (12 ≤ e ∧ e ≤ 15 ∧ j = s + 1) → ¬ (e = 11 ∧ j = 4) → pg_em K1 21 0 (G 65 (N - 1)) 0 e j = K1 e j := fun e j z1 z2 => pg_em_ne (by rw [c1.2.1.1]; exact z1) z2
  rw [c1.2.1.1] at a2
  rw [c1.2.1.1]
  generalize pg_em K1 21 0 (G 65 (N - 1)) 0 = K2 at *
  rw [dkS_165 (l := N - 1) ((x2 59 8 (by omega) (by omega)).trans k8) l2, od_bS]
  dsimp only
  have c3 : cy T n G0 c0 O i cs (s + 1 + 1) ns np N Q (wq_up K2 65 (N - 1) (s + 1)) := cy_br c2 (okj_p (by omega))
  have x3 : ∀ e j, ¬ (e = 65 ∧ j = N - 1) → wq_up K2 65 (N - 1) (s + 1) e j = K2 e j := fun e j z => wq_up_ne z
  have y3 : wq_up K2 65 (N - 1) (s + 1) 65 (N - 1) = s + 1 := wq_up_same _ _ _ _
  generalize wq_up K2 65 (N - 1) (s + 1) = K3 at *
  have j3 : K3 14 s = 4294967295 := by
    rw [x3 14 s (by omega), x2 14 s (by omega) (by omega)]
    exact a1.2.2.1
  rw [dkS_159 (L := [s]) ⟨rfl, by omega, by rw [j3]; exact ⟨by decide, by decide⟩⟩ hn, od_bS, c3.2.1.1]
  dsimp only
  have c4 : cy T n G0 c0 O i cs (s + 1 + 1) ns np N Q (jl_up K3 14 [s] (s + 1 + 1)) := cy_jl c3 (okj_p (by omega))
  have x4 : ∀ e j, ¬ (e = 14 ∧ j = s) → jl_up K3 14 [s] (s + 1 + 1) e j = K3 e j := fun e j z => jl_ne (fun y => z ⟨y.1, List.mem_singleton.mp y.2⟩)
  have y4 : jl_up K3 14 [s] (s + 1 + 1) 14 s = s + 2 := jl_at (List.mem_singleton.mpr rfl)
  generalize jl_up K3 14 [s] (s + 1 + 1) = K4 at *
  have k48 : K4 59 8 = N - 1 := by rw [x4 59 8 (by omega), x3 59 8 (by omega), x2 59 8 (by omega) (by omega)]; exact k8
  rw [dkS_113 (l := N - 1) k48 l2 (by rw [c4.2.1.1]; omega), od_bS]
  dsimp only
  have c5 : cy T n G0 c0 O i cs (s + 1 + 1 + 1) ns np N Q (wq_up (pg_em K4 27 h 0 0) 64 (N - 1) h) := cy_up (cy_em c4 (okj_p (by decide))) (by unfold cy_n; omega)
  have a5 := pg_em_at (G := K4) (op := 27) (a := h) (b := 0) (ln := 0)
  rw [c4.2.1.1] at a5
  have x5 : ∀ e j, ¬ (12 ≤ e ∧ e ≤ 15 ∧ j = s + 2) → ¬ (e = 11 ∧ j = 4) → ¬ (e = 64 ∧ j = N - 1) → wq_up (pg_em K4 27 h 0 0) 64 (N - 1) h e j = K4 e j := fun e j z1 z2 z3 => by
    rw [wq_up_ne z3, pg_em_ne (by rw [c4.2.1.1]; exact z1) z2]
  have y5 : wq_up (pg_em K4 27 h 0 0) 64 (N - 1) h 12 (s + 2) = 27 ∧ wq_up (pg_em K4 27 h 0 0) 64 (N - 1) h 13 (s + 2) = h ∧ wq_up (pg_em K4 27 h 0 0) 64 (N - 1) h 64 (N - 1) = h := ⟨(wq_up_cell (by decide)).trans a5.1, (wq_up_cell (by decide)).trans a5.2.1, wq_up_same _ _ _ _⟩
  generalize wq_up (pg_em K4 27 h 0 0) 64 (N - 1) h = K5 at *
  rw [dkS_78 (by rw [c5.2.1.1]; omega), od_bS]
  dsimp only
  have c6 : cy T n G0 c0 O i cs (s + 1 + 1 + 1 + 1) ns np N Q (pg_em K5 21 0 ag 0) := cy_em c5 (okj_p hag)
  have a6 := pg_em_at (G := K5) (op := 21) (a := 0) (b := ag) (ln := 0)
  rw [c5.2.1.1] at a6
  unfold dk_168
  rw [od_upS, od_bS]
  have x7 : ∀ e j, ¬ (12 ≤ e ∧ e ≤ 15 ∧ j = s + 3) → ¬ (e = 11 ∧ j = 4) → ¬ (e = 59 ∧ j = 3) → wq_up (pg_em K5 21 0 ag 0) 59 3 of0 e j = K5 e j := fun e j z1 z2 z3 => by
    rw [wq_up_ne z3, pg_em_ne (by rw [c5.2.1.1]; exact z1) z2]
  have y7 : wq_up (pg_em K5 21 0 ag 0) 59 3 of0 12 (s + 3) = 21 ∧ wq_up (pg_em K5 21 0 ag 0) 59 3 of0 14 (s + 3) = ag ∧ wq_up (pg_em K5 21 0 ag 0) 59 3 of0 59 3 = of0 := ⟨(wq_up_cell (by decide)).trans a6.1, (wq_up_cell (by decide)).trans a6.2.2.1, wq_up_same _ _ _ _⟩
  have c7 : cy T n G0 c0 O i cs (s + 1 + 1 + 1 + 1) ns np N Q (wq_up (pg_em K5 21 0 ag 0) 59 3 of0) := cy_up c6 (by unfold cy_n; omega)
  generalize wq_up (pg_em K5 21 0 ag 0) 59 3 of0 = K7 at *
  refine ⟨K7, rfl, c7, fun e j z1 z2 z3 z4 z5 => ?_, ⟨?_, ?_, ?_, ?_, ?_, ?_, y7.1, y7.2.1⟩, ?_, ?_, y7.2.2⟩
  · rw [x7 e j (by omega) (by omega) z5, x5 e j (by omega) (by omega) z4, x4 e j (by omega), x3 e j z3, x2 e j (by omega) (by omega), x1 e j (by omega) (by omega)]
  · rw [x7 12 s (by omega) (by omega) (by omega), x5 12 s (by omega) (by omega) (by omega), x4 12 s (by omega), x3 12 s (by omega), x2 12 s (by omega) (by omega)]
    exact a1.1
  · rw [x7 14 s (by omega) (by omega) (by omega), x5 14 s (by omega) (by omega) (by omega)]
    exact y4
  · rw [x7 12 _ (by omega) (by omega) (by omega), x5 12 _ (by omega) (by omega) (by omega), x4 12 _ (by omega), x3 12 _ (by omega)]
    exact a2.1
  · rw [x7 14 _ (by omega) (by omega) (by omega), x5 14 _ (by omega) (by omega) (by omega), x4 14 _ (by omega), x3 14 _ (by omega)]
    exact a2.2.2.1
  · rw [x7 12 _ (by omega) (by omega) (by omega)]
    exact y5.1
  · rw [x7 13 _ (by omega) (by omega) (by omega)]
    exact y5.2.1
  · rw [x7 65 _ (by omega) (by omega) (by omega), x5 65 _ (by omega) (by omega) (by omega), x4 65 _ (by omega)]
    exact y3
  · rw [x7 64 _ (by omega) (by omega) (by omega)]
    exact y5.2.2
/-- the reference's end of repeat, up to the loop's end -/
theorem rp_ref {x v a0 : Nat} {g : Nat × wq_F → Option (Nat × wq_F)} (hr : ry T n M i ls t w nw np W L P F) (h50 : F 0 50 = v) (hx : x ≤ v) (hv : v < 1600) (hw : w < 13900) : ∃ wj H, ((dk_225 F x).bind fun y1 => (dk_30 y1.2 22 a0 0 0).bind g) = g (wj, H) ∧ ry T n M i ls t (wj + 1) nw np W L P H ∧ rm_fr F H ∧ (∀ d j, ¬ d = 0 → ¬ (20 ≤ d ∧ d ≤ 23 ∧ w ≤ j) → H d j = F d j) ∧ (H 0 53 = F 0 53 ∧ H 0 50 = x ∧ H 20 wj = 22 ∧ H 21 wj = a0) ∧ ((wj = w ∧ ¬ x < v) ∨ (wj = w + 1 ∧ H 20 w = 20 ∧ H 21 w = F 30 x ∧ x < v)) := by
  have hw1 : F 0 41 = w := hr.2.1.2.1
  rw [dkS_225 h50 hx hv (by omega)]
  by_cases q : x < v
  · rw [if_pos q, od_bS]
    dsimp only
    have r1 : ry T n M i ls t (w + 1) nw np W L P (wq_up (pm_em F 20 (F 30 x) 0 0) 0 50 x) := ry_up (ry_em hr) (by unfold ry_n; omega)
    have a1 := pm_em_at (F := F) (op := 20) (a := F 30 x) (b := 0) (ln := 0)
    rw [hw1] at a1
    have y1 : wq_up (pm_em F 20 (F 30 x) 0 0) 0 50 x 20 w = 20 ∧ wq_up (pm_em F 20 (F 30 x) 0 0) 0 50 x 21 w = F 30 x ∧ wq_up (pm_em F 20 (F 30 x) 0 0) 0 50 x 0 53 = F 0 53 ∧ wq_up (pm_em F 20 (F 30 x) 0 0) 0 50 x 0 50 = x := ⟨(wq_up_cell (by decide)).trans a1.1, (wq_up_cell (by decide)).trans a1.2.1, by rw [wq_up_at (by decide), pm_em_ne (by omega) (by omega)], wq_up_same _ _ _ _⟩
    have x1 : ∀ d j, ¬ d = 0 → ¬ (20 ≤ d ∧ d ≤ 23 ∧ j = w) → wq_up (pm_em F 20 (F 30 x) 0 0) 0 50 x d j = F d j := fun d j z1 z2 => by rw [wq_up_cell z1, pm_em_ne (by omega) (by omega)]
    have f1 : rm_fr F (wq_up (pm_em F 20 (F 30 x) 0 0) 0 50 x) := rm_fr_up (rm_fr_em (rm_fr_refl _)) (by decide) (by decide)
    generalize wq_up (pm_em F 20 (F 30 x) 0 0) 0 50 x = F1 at *
    have w1 := r1.2.1.2.1
    have a2 := pm_em_at (F := F1) (op := 22) (a := a0) (b := 0) (ln := 0)
    rw [w1] at a2
    rw [dkS_30 (by omega), od_bS, w1]
    refine ⟨w + 1, _, rfl, ry_em r1, rm_fr_em f1, fun d j z1 z2 => ?_, ⟨?_, ?_, a2.1, a2.2.1⟩, Or.inr ⟨rfl, ?_, ?_, q⟩⟩
    · rw [pm_em_ne (by omega) (by omega), x1 d j z1 (by omega)]
    · rw [pm_em_ne (by omega) (by omega)]; exact y1.2.2.1
    · rw [pm_em_ne (by omega) (by omega)]; exact y1.2.2.2
    · rw [pm_em_ne (by omega) (by omega)]; exact y1.1
    · rw [pm_em_ne (by omega) (by omega)]; exact y1.2.1
  · rw [if_neg q, od_bS]
    dsimp only
    have a2 := pm_em_at (F := F) (op := 22) (a := a0) (b := 0) (ln := 0)
    rw [hw1] at a2
    rw [dkS_30 (by omega), od_bS, hw1]
    refine ⟨w, _, rfl, ry_em hr, rm_fr_em (rm_fr_refl _), fun d j z1 z2 => pm_em_ne (by omega) (by omega), ⟨pm_em_ne (by omega) (by omega), ?_, a2.1, a2.2.1⟩, Or.inl ⟨rfl, q⟩⟩
    rw [pm_em_ne (by omega) (by omega), h50]
    omega
theorem st_repeat {D k : Nat} (hM : tk_M T n M) (hn : 10000 < nn) (hc0 : c0.length ≤ 1400) (hO : O ≤ 20000) (hn2 : 14000 < nn) (hD : D ≤ 20) (hE : E_ok nn T n M G0 c0 O (D + 1)) (hBk : Bk_ok nn T n M G0 c0 O (D + 1)) (hkf : 20 * (22 - D) + 10 ≤ k) (htD : t = D) (hr : ry T n M i ls t w nw np W L P F) (hc : cy T n G0 c0 O i cs s ns np N Q G) (hb : bz N off voff ph cx c np F ls G cs) (hB : bnd i w s nw ns np t (hg c) W L P Q N) (hW : W.length ≤ 20 * t) (hNt : N ≤ t) (hL1 : L.length + 1 ≤ t) (hbo : bo N L F G w s Jr0 Jc0) (hib : ib N L cb c) (hfs : fs c) (hk : tk_k T n i = 4 ∧ tk_V T n (tk_pos T n i) = 16) : wok (dk_121 (dk_R nn k) nn G D) (fun _ K => (∃ i' w' s' nw' ns' np' ls' cs' H c' off' voff' ph' L' Jr Jc, rgo nn F ((dk_212 F).bind fun y24 => if y24.1 = 0 then some (0, y24.2) else (dk_227 y24.2).bind fun y120 => (dk_218 y120.2).bind fun y124 => od_g (y124.1 < 51) <| (dk_31 y124.2 28 (y120.2 0 41) (y120.2 0 50) (y124.2 14 y124.1)).bind fun y129 => (dk_31 y129.2 0 0 0 0).bind fun y133 => some (1, y133.2)) H ∧ ge T n M G0 c0 O N cx cb F G i ls cs w s nw ns np c off voff ph L Jr0 Jc0 t W P Q H K i' ls' cs' w' s' nw' ns' np' c' off' voff' ph' L' Jr Jc ∧ lo N voff c voff' ph' c' K ∧ rts i w s nw ns i' (w' + 1) (s' + 1) nw' ns' ∧ hg c' + 2 * i ≤ hg c + 2 * i') ∨ ∃ e p, rba nn F ((dk_212 F).bind fun y24 => if y24.1 = 0 then some (0, y24.2) else (dk_227 y24.2).bind fun y120 => (dk_218 y120.2).bind fun y124 => od_g (y124.1 < 51) <| (dk_31 y124.2 28 (y120.2 0 41) (y120.2 0 50) (y124.2 14 y124.1)).bind fun y129 => (dk_31 y129.2 0 0 0 0).bind fun y133 => some (1, y133.2)) e p ∧ sx T n G0 c0 O e p N (zz D + 98) K) := by
  have hz : 6200 ≤ zz D ∧ zz D < 9800 ∧ zz (D + 1) + 110 = zz D := by unfold zz; omega
  obtain ⟨m1, m2, m3, m4, m5, m6, m7, m8, m9, m10, m11, m12⟩ := hB
  have hM1 := hM.1
  have hiM := hr.1.2.2.1
  have hN := hb.1.1
  have h62 := hb.2.2.2.2.2.1
  have hw1 : F 0 41 = w := hr.2.1.2.1
  have hok : okj (G 65 (N - 1)) := hc.2.2.2.2.2 (N - 1) (by omega)
  have h593 : G 59 3 = off N := hN.2.2.2.2.2.2.1
  have h12 : off N ≤ 1200 := hN.2.2.2.2.2.2.2.2
  unfold dk_121
  rw [cy_164 hc hb, od_bS]
  dsimp only
  rw [cy_84 hc hb, od_bS]
  dsimp only
  rw [Nat.mod_eq_of_lt (show D + 1 < 4294967296 by omega), h593]
  refine wok_b (e_77 (cb := cb) (B := 6200) hM hr hc hb (by omega) (by omega) hn hc0 hO (by omega) (by omega) m5 (by omega)) fun r K1 h1 => ?_
  dsimp only
  rcases h1 with ⟨ms, iM, e1, E1, f1⟩ | ⟨e1, hx⟩
  rotate_left
  · have hd : ((dk_212 F).bind fun y24 => if y24.1 = 0 then some (0, y24.2) else (dk_227 y24.2).bind fun y120 => (dk_218 y120.2).bind fun y124 => od_g (y124.1 < 51) <| (dk_31 y124.2 28 (y120.2 0 41) (y120.2 0 50) (y124.2 14 y124.1)).bind fun y129 => (dk_31 y129.2 0 0 0 0).bind fun y133 => some (1, y133.2)) = some (0, pm_f F 3 (tk_pos T n i)) := by
      rw [e1, od_bS]
      dsimp only
      rw [if_pos rfl]
    have ho := rba_f (nn := nn) hd (rm_fr_refl _) (by omega)
    have h11 := hx.2.2.1.1
    refine wok_b (sx_165 hx (okj_n (by decide))) fun r K h => ?_
    refine wok_b (sx_80 h (by omega) hn) fun r K h => ?_
    exact wok_m (sx_r3 h (by decide) (okj_p (by omega)) hok h12 hn (by omega)) fun r K h => Or.inr ⟨_, _, ho, sx_le h (by omega)⟩
  have h114 : K1 11 4 = s := E1.2.1.2.1.1
  rw [h114]
  have h621 := E1.2.2.1.2.2.2.2.2.1
  have hfN : G 62 (N - 1) < np := h62 (N - 1) (by omega)
  have l1 := (E1.2.2.2.2.1.2.2.1 (N - 1) (by omega))
  have ff1 : rm_fr F (wq_up F 0 25 (i + 1)) := rm_fr_up (rm_fr_refl _) (by decide) (by decide)
  have hd0 : ((dk_212 F).bind fun y24 => if y24.1 = 0 then some (0, y24.2) else (dk_227 y24.2).bind fun y120 => (dk_218 y120.2).bind fun y124 => od_g (y124.1 < 51) <| (dk_31 y124.2 28 (y120.2 0 41) (y120.2 0 50) (y124.2 14 y124.1)).bind fun y129 => (dk_31 y129.2 0 0 0 0).bind fun y133 => some (1, y133.2)) = (dk_227 (wq_up F 0 25 (i + 1))).bind fun y120 => (dk_218 y120.2).bind fun y124 => od_g (y124.1 < 51) <| (dk_31 y124.2 28 (y120.2 0 41) (y120.2 0 50) (y124.2 14 y124.1)).bind fun y129 => (dk_31 y129.2 0 0 0 0).bind fun y133 => some (1, y133.2) := by
    rw [e1, od_bS]
    dsimp only
    rw [if_neg (by decide)]
  generalize ((dk_212 F).bind fun y24 => if y24.1 = 0 then some (0, y24.2) else (dk_227 y24.2).bind fun y120 => (dk_218 y120.2).bind fun y124 => od_g (y124.1 < 51) <| (dk_31 y124.2 28 (y120.2 0 41) (y120.2 0 50) (y124.2 14 y124.1)).bind fun y129 => (dk_31 y129.2 0 0 0 0).bind fun y133 => some (1, y133.2)) = mm at *
  generalize wq_up F 0 25 (i + 1) = F1 at *
  -- the class: a loop without breaks yet
  rw [dkS_165 (l := N - 1) (by have := E1.2.2.1.1.1; omega) (by omega), od_bS]
  dsimp only
  have c2 : cy T n G0 c0 O (i + 1) ms s ns np N Q (wq_up K1 65 (N - 1) 4294967295) := cy_br E1.2.1 (okj_n (by decide))
  have b2 : bz N off voff ph cx c np F1 ls (wq_up K1 65 (N - 1) 4294967295) ms := bz_gu E1.2.2.1 (by omega)
  have k2 : ∀ d j, ¬ d = 65 → wq_up K1 65 (N - 1) 4294967295 d j = K1 d j := fun d j q => wq_up_cell q
  have k2b : wq_up K1 65 (N - 1) 4294967295 65 (N - 1) = 4294967295 := wq_up_same _ _ _ _
  have k2c : ∀ l, l + 1 < N → wq_up K1 65 (N - 1) 4294967295 65 l = K1 65 l := fun l hl => wq_up_at (by omega)
  generalize wq_up K1 65 (N - 1) 4294967295 = K2 at *
  -- the reference
  obtain ⟨F2, e2, r2, x2⟩ := ry_op E1.1 (by omega)
  rw [e2, od_bS] at hd0
  dsimp only at hd0
  have h53 : F1 0 53 = N - 1 := by have := b2.1.1; omega
  have h50 : F1 0 50 = voff N := b2.1.1.2.2.2.2.2.2.2.1
  have h32 : F1 32 (N - 1) = G 62 (N - 1) := by
    rw [(b2.1.2.1 (N - 1) (by omega)).2.2.2.2.1, k2 62 _ (by decide), l1.1]
  have y2 : F2 0 53 = N - 1 ∧ F2 0 50 = voff N ∧ F2 32 (N - 1) = G 62 (N - 1) ∧ F2 0 41 = w := ⟨(x2 0 53 (by omega) (by omega)).trans h53, (x2 0 50 (by omega) (by omega)).trans h50, (x2 32 _ (by omega) (by omega)).trans h32, r2.2.1.2.1⟩
  have b2F : bz N off voff ph cx c np F2 ls K2 ms := bz_F b2 ⟨fun d hd => funext fun j => x2 d j (by omega) (by omega), x2 0 50 (by omega) (by omega), x2 0 53 (by omega) (by omega)⟩
  have f2 : rm_fr F F2 := rm_fr_x ff1 (fun c j a b _ => x2 c j (by omega) (by omega)) ⟨x2 0 2 (by omega) (by omega), x2 0 8 (by omega) (by omega), x2 0 14 (by omega) (by omega)⟩
  rw [h53] at r2
  unfold dk_218 at hd0
  rw [y2.1, od_g1 (by omega), y2.2.2.1, od_bS] at hd0
  dsimp only at hd0
  rw [od_g1 (by omega), y2.2.2.2, y2.2.1, dkS_31 (by rw [r2.2.2.1.1]; omega), od_bS] at hd0
  dsimp only at hd0
  have hfr : ∀ e ∈ c, e < F2 14 (G 62 (N - 1)) + 5 := fun e he => by
    have y := bz_fr b2F e he
    rw [k2 62 _ (by decide), l1.1] at y
    exact y
  have e3 := e_la (cb := c) (x1 := 28) (x2 := w) (x3 := voff N) (x4 := F2 14 (G 62 (N - 1))) r2 c2 b2F m5
  rw [dkS_31 (by rw [e3.1.2.2.1.1]; show W.length + 1 < 4000; omega), od_bS] at hd0
  dsimp only at hd0
  have e4 := e_la (cb := c) (x1 := 0) (x2 := 0) (x3 := 0) (x4 := 0) e3.1 e3.2.1 e3.2.2.1 m5
  have f4 : rm_fr F (pm_la (pm_la F2 28 w (voff N) (F2 14 (G 62 (N - 1)))) 0 0 0 0) := rm_fr_la (rm_fr_la f2)
  have x4 : ∀ d j, ¬ d = 0 → ¬ (25 ≤ d ∧ d ≤ 28) → ¬ (d = 33 ∨ d = 34) → pm_la (pm_la F2 28 w (voff N) (F2 14 (G 62 (N - 1)))) 0 0 0 0 d j = F1 d j := fun d j a b e => by
    rw [pm_la_ne (by omega) (by omega), pm_la_ne (by omega) (by omega), x2 d j (by omega) (by omega)]
  generalize F2 14 (G 62 (N - 1)) = a1 at *
  generalize pm_la (pm_la F2 28 w (voff N) a1) 0 0 0 0 = F4 at *
  have g4 : rgo nn F mm F4 := rgo_i hd0 (by decide) e4.1.1.1 f4
  have hbo4 : bo N ((4294967295, N - 1) :: L) F4 K2 w s [] [] := by
    refine ⟨fun e he => ?_, Or.inl ⟨4294967295, L, rfl, ⟨by decide, by decide⟩, ?_, ?_⟩⟩
    · rcases List.mem_cons.mp he with q | q
      · rw [q]
        show N - 1 < N
        omega
      · exact hbo.1 e q
    · rw [k2b]
      exact ⟨by decide, by decide⟩
    · rw [k2b]
      decide
  refine wok_b (hBk k (i + 1) t w s nw ns np N off voff ph cx c c ((28, w, voff N, a1) :: W) ((4294967295, N - 1) :: L) P Q ls ms F4 K2 [] [] (by omega) (by omega) e4.1 e4.2.1 e4.2.2.1 ⟨by omega, by omega, by omega, by omega, m5, m6, by omega, by show W.length + 1 ≤ _; omega, ⟨hL1, hbo4.1⟩, m10, m11, m12⟩ (by show W.length + 1 ≤ _; omega) hbo4 (fun _ => ⟨[], rfl, fun e he => absurd he (List.not_mem_nil)⟩) hfs) fun r K5 h5 => ?_
  dsimp only
  rcases h5 with ⟨i5, w5, s5, nw5, ns5, np5, ls5, cs5, H5, c5, off5, voff5, ph5, L5, Jr, Jc, g5, ge5, lo5, ⟨u1, u2, u3, u4, u5⟩, hh5, hs5⟩ | ⟨e, p, ho, hx⟩
  rotate_left
  · exact wok_m (sxy_r3 hx (by omega) (okj_p (by omega)) hok h12 hn (by omega)) fun r K h => Or.inr ⟨e, p, rgo_o g4 ho, sx_le h (by omega)⟩
  have i5M := ge5.1.1.2.2.1
  have n5 : np5 ≤ 50 := ge5.2.2.2.2.2.1.2
  have b5 := ge5.2.2.1
  have v5 := ge5.2.2.2.2.2.2.1
  have gk5 := ge5.2.2.2.2.1.2.2
  obtain ⟨v5', eL5⟩ := lt2_head ge5.2.2.2.2.2.2.2.2
  subst eL5
  obtain ⟨jr, jcc⟩ := bo_head ge5.2.2.2.2.2.2.2.1
  rw [List.append_nil] at jr jcc
  have hfs5 : fs c5 := by
    obtain ⟨_, _, _, _, _, z⟩ := lo5
    exact z hfs
  obtain ⟨a, ea, a5, al, apos, _⟩ := lo5
  subst ea
  have hga : hg (a ++ c) = a.length + hg c := by rw [hg_app, hg_5 a5]
  -- until
  have hgo5 := fun H => ry_go (nn := nn) (H := H) ge5.1 (by show W.length < 4000; omega)
  have hba5 := fun k p => ry_ba (nn := nn) (k := k) (p := p) ge5.1 (by show W.length < 4000; omega)
  have e6 := e_pop (cb := cb) ge5.1 ge5.2.1 b5 n5
  have f6 : rm_fr H5 (wq_up H5 0 46 W.length) := rm_fr_up (rm_fr_refl _) (by decide) (by decide)
  have h33 : dk_32 nn (wq_up H5 0 46 W.length) (28, w, voff N, a1).1 (28, w, voff N, a1).2.1 (28, w, voff N, a1).2.2.1 (28, w, voff N, a1).2.2.2 = dk_263 (wq_up H5 0 46 W.length) w (voff N) a1 := by
    show dk_32 nn (wq_up H5 0 46 W.length) 28 w (voff N) a1 = _
    rw [dk32_28b]
  generalize dk_32 nn (wq_up H5 0 46 W.length) (28, w, voff N, a1).1 (28, w, voff N, a1).2.1 (28, w, voff N, a1).2.2.1 (28, w, voff N, a1).2.2.2 = m5' at *
  generalize wq_up H5 0 46 W.length = H6 at *
  unfold dk_263 at h33
  refine wok_b (e_wd (cb := cb) (x := 20) (B := 6240) hM e6.1 e6.2.1 e6.2.2.1 (by decide) hn hc0 hO (by omega) (by omega) n5 (by omega)) fun r K7 h7 => ?_
  dsimp only
  rcases h7 with ⟨ms7, iM7, e7, E7, f7⟩ | ⟨kk, e7, hx⟩
  rotate_left
  · rw [e7, od_bS] at h33
    dsimp only at h33
    rw [if_pos rfl] at h33
    have ho := hba5 _ _ (rba_f h33 f6 (by rw [e6.1.2.1.2.1]; omega))
    refine wok_b (sx_78 hx (by omega) (okj_p (by decide))) fun r K h => ?_
    refine wok_b (sx_148 h.2 (by omega)) fun r K h => ?_
    exact wok_m (sx_r4 h.2 (by omega) (okj_p (by omega)) hok h12 hn) fun r K h => Or.inr ⟨_, _, rgo_o g4 (rm_to_out g5.1 g5.2 ho), sx_le h (by omega)⟩
  rw [e7, od_bS] at h33
  dsimp only at h33
  have h625 := b5.2.2.2.2.2.1
  have E67 := eg_t e6 E7 h625
  have f7r : rm_fr H5 (wq_up H6 0 25 (i5 + 1)) := rm_fr_up f6 (by decide) (by decide)
  generalize wq_up H6 0 25 (i5 + 1) = H7 at *
  have h741 : H7 0 41 = w5 := E67.1.2.1.2.1
  rw [if_neg (by decide), dkS_30 (by omega), od_bS] at h33
  dsimp only at h33
  refine wok_b (e_step (cb := cb) (l := 0) (a := 0) (b := 0) E67.1 E67.2.1 E67.2.2.1 n5 (by omega)) fun r K8 h8 => ?_
  dsimp only
  obtain ⟨_, E8, _, i8⟩ := h8
  have at8 := pm_em_at (F := H7) (op := 0) (a := 0) (b := 0) (ln := 0)
  rw [h741] at at8
  rw [dkS_31 (by rw [E8.1.2.2.1.1]; omega), od_bS] at h33
  dsimp only at h33
  have e9 := e_la (cb := cb) (x1 := 29) (x2 := w) (x3 := voff N) (x4 := a1) E8.1 E8.2.1 E8.2.2.1 n5
  rw [dkS_31 (by rw [e9.1.2.2.1.1]; show W.length + 1 < 4000; omega), od_bS] at h33
  dsimp only at h33
  have e10 := e_la (cb := cb) (x1 := 3) (x2 := 0) (x3 := 0) (x4 := 0) e9.1 e9.2.1 e9.2.2.1 n5
  have E9 := eg_t e9 e10 E8.2.2.1.2.2.2.2.2.1
  have f9 : rm_fr H5 (pm_la (pm_la (pm_em H7 0 0 0 0) 29 w (voff N) a1) 3 0 0 0) := rm_fr_la (rm_fr_la (rm_fr_em f7r))
  have y9 : pm_la (pm_la (pm_em H7 0 0 0 0) 29 w (voff N) a1) 3 0 0 0 20 w5 = 0 := by
    rw [pm_la_ne (by omega) (by omega), pm_la_ne (by omega) (by omega)]
    exact at8.1
  generalize pm_la (pm_la (pm_em H7 0 0 0 0) 29 w (voff N) a1) 3 0 0 0 = H9 at *
  have g9 := hgo5 _ (rgo_i h33 (by decide) E9.1.1.1 f9)
  have E59 := eg_t E67 (eg_t E8 E9 E67.2.2.1.2.2.2.2.2.1) h625
  refine wok_b (hE k 0 0 (i5 + 1) t (w5 + 1) (s5 + 1) nw5 ns5 np5 N off5 voff5 ph5 cx (a ++ c) cb ((29, w, voff N, a1) :: W) ((v5', N - 1) :: L) P Q ls5 ms7 H9 K8 (by omega) (by unfold lim; omega) (by omega) E9.1 E9.2.1 E9.2.2.1 ⟨by omega, by omega, by omega, by omega, n5, m6, by omega, by show W.length + 1 ≤ _; omega, ⟨hL1, fun e he => ?_⟩, m10, m11, m12⟩) fun r K10 h10 => ?_
  · rcases List.mem_cons.mp he with q | q
    · rw [q]
      show N - 1 < N
      omega
    · exact hbo.1 e q
  dsimp only
  rcases h10 with ⟨i10, w10, s10, nw10, ns10, np10, ls10, cs10, H10, g10, E10, ⟨q1, q2, q3, q4, q5⟩, _⟩ | ⟨e, p, ho, hx⟩
  rotate_left
  · exact wok_m (sx_r4 hx (by omega) (okj_p (by omega)) hok h12 hn) fun r K h => Or.inr ⟨e, p, rgo_o g4 (rm_to_out g5.1 g5.2 (rm_to_out g9.1 g9.2 ho)), sx_le h (by omega)⟩
  have i10M := E10.1.1.2.2.1
  have n10 : np10 ≤ 50 := E10.2.2.2.2.2.2
  have g10' : rgo nn F mm H10 := rgo_t g4 ⟨rm_trans g5.1 (rm_trans g9.1 g10.1), rm_fr_trans g5.2 (rm_fr_trans g9.2 g10.2)⟩
  -- the class
  obtain ⟨K17, e4, c17, x17, ⟨t1, t2, t3, t4, t5, t6, t7, t8⟩, t9, t10, t11⟩ := rp_class (h := hg c) (ag := s) (of0 := off N) (o := G 65 (N - 1)) E10.2.1 E10.2.2.1 hn (by omega) (by omega)
  rw [e4]
  -- the reference
  have hgoA := fun H => ry_go (nn := nn) (H := H) E10.1 (by show W.length < 4000; omega)
  have rp := ry_pop E10.1
  have bp := bz_fu (d := 0) (j := 46) (v := W.length) E10.2.2.1 (by omega)
  have fp : rm_fr H10 (wq_up H10 0 46 W.length) := rm_fr_up (rm_fr_refl _) (by decide) (by decide)
  have xp : ∀ d j, ¬ (d = 0 ∧ j = 46) → wq_up H10 0 46 W.length d j = H10 d j := fun d j q => wq_up_ne q
  have h34 : dk_32 nn (wq_up H10 0 46 W.length) (29, w, voff N, a1).1 (29, w, voff N, a1).2.1 (29, w, voff N, a1).2.2.1 (29, w, voff N, a1).2.2.2 = dk_264 nn (wq_up H10 0 46 W.length) w (voff N) a1 := by
    show dk_32 nn (wq_up H10 0 46 W.length) 29 w (voff N) a1 = _
    rw [dk32_29b]
  generalize dk_32 nn (wq_up H10 0 46 W.length) (29, w, voff N, a1).1 (29, w, voff N, a1).2.1 (29, w, voff N, a1).2.2.1 (29, w, voff N, a1).2.2.2 = mB at *
  generalize wq_up H10 0 46 W.length = Hp at *
  unfold dk_264 at h34
  have hp50 : Hp 0 50 = voff5 N := bp.1.1.2.2.2.2.2.2.2.1
  have vle := bz_vle bp
  have ole := bp.1.1.2.2.2.2.2.2.2.2
  obtain ⟨wj, H18, eq, r18, f18', x18', ⟨y53, y50, y22, y21⟩, w18'⟩ := rp_ref (a0 := w) (g := fun y5 => (dk_228 nn y5.2 a1).bind fun y9 => some (1, y9.2)) rp hp50 v5.2.2.1 (by omega) (by omega)
  rw [eq] at h34
  have hwj : w10 ≤ wj ∧ wj ≤ w10 + 1 := by rcases w18' with ⟨z, _⟩ | ⟨z, _⟩ <;> omega
  have f18 : rm_fr H10 H18 := rm_fr_trans fp f18'
  have x18 : ∀ d j, ¬ d = 0 → ¬ (20 ≤ d ∧ d ≤ 23 ∧ w10 ≤ j) → H18 d j = H10 d j := fun d j x1 x2 => by
    rw [x18' d j x1 x2, xp d j (by omega)]
  have w18 : (wj = w10 ∧ a = []) ∨ (wj = w10 + 1 ∧ H18 20 w10 = 20 ∧ H18 21 w10 = H10 30 (voff N) ∧ voff N < voff5 N) := by
    rcases w18' with ⟨z1, z2⟩ | ⟨z1, z2, z3, z4⟩
    · refine Or.inl ⟨z1, List.eq_nil_of_length_eq_zero ?_⟩
      have := v5.2.2.1
      omega
    · exact Or.inr ⟨z1, z2, z3.trans (xp 30 _ (by omega)), z4⟩
  -- the names that came are gone
  have hph : ∀ k, k < voff N → ph k < off N := fun k hk => (hb.1.2.2.1 k hk).1
  have hlo : off (N - 1) ≤ off N ∧ voff (N - 1) ≤ voff N := by
    have y := hb.1.2.1 (N - 1) (by omega)
    rw [show N - 1 + 1 = N by omega] at y
    exact ⟨y.1, y.2.1⟩
  have kk : ∀ d j, (17 ≤ d ∧ d ≤ 23) ∨ d = 62 ∨ d = 61 ∨ d = 60 → K17 d j = K10 d j := fun d j q => x17 d j (by omega) (by omega) (by omega) (by omega) (by omega)
  have kk5 : ∀ x, x < off5 N → ∀ e6, e6 = 60 ∨ e6 = 61 → K10 e6 x = K5 e6 x := fun x hx e6 h6 => by
    rw [E10.2.2.2.2.1.2.2.2 x hx e6 h6, E59.2.2.2.2.1.2.2.2 x hx e6 h6]
  have e61 : ∀ x, x < off N → ∀ e6, e6 = 60 ∨ e6 = 61 → K5 e6 x = G e6 x := fun x hx e6 h6 => by
    rw [gk5.2.2 x hx e6 h6, k2 e6 x (by omega), E1.2.2.2.2.1.2.2.2 x hx e6 h6]
  have h61 : ∀ k, voff (N - 1) ≤ k → k < voff N → K10 61 (ph k) < hg c := fun k x1 x2 => by
    have y := hb.2.2.2.2.1 (N - 1) k (by omega) x1 (by rw [show N - 1 + 1 = N by omega]; exact x2)
    rw [cxf_t (by omega)] at y
    have z := cx_at_lt y
    have hp := hph k x2
    have ho := v5.2.1
    rw [kk5 _ (by omega) 61 (Or.inr rfl), e61 _ hp 61 (Or.inr rfl)]
    exact z
  have e18 : ∀ d, d = 14 ∨ d = 15 ∨ d = 16 ∨ d = 18 ∨ d = 19 ∨ (29 ≤ d ∧ d ≤ 32) → H18 d = H10 d := fun d hd => funext fun j => x18 d j (by omega) (by omega)
  have b17 : bz N off voff ph cx c np10 H18 ls10 K17 cs10 := bz_close (a := 0 :: a) (F := H10) (G := K10) E10.2.2.1 v5 hph hlo h61 ⟨y53.trans (xp 0 53 (by omega)), y50, e18⟩ ⟨x17 59 8 (by omega) (by omega) (by omega) (by omega) (by omega), t11, fun d hd => funext fun j => x17 d j (by omega) (by omega) (by omega) (by omega) (by omega)⟩ (fun l hl => by
    by_cases z : l = N - 1
    · rw [if_pos z, z]
      exact t10
    · rw [if_neg z]
      exact x17 64 l (by omega) (by omega) (by omega) (by omega) (by omega))
  -- the loop's end
  have lk10 := E10.2.2.2.2.1.2.2
  have lk59 := E59.2.2.2.2.1.2.2
  have pk10 := E10.2.2.2.1
  have pk59 := E59.2.2.2.1
  have jrA : jc (H18 21) v5' (wj + 1) Jr := jc_le (jc_ext jr (fun j hj => by
    have hlt := jc_lt jr j hj
    have l59 := pk59.1.1
    have l10 := pk10.1.1
    rw [x18 21 j (by decide) (by omega), pk10.2.1.1 21 j (by decide) (by decide) (by omega), pk59.2.1.1 21 j (by decide) (by decide) hlt])) (by have l59 := pk59.1.1; have l10 := pk10.1.1; omega)
  have k65 : K10 65 (N - 1) = K5 65 (N - 1) := by rw [(lk10.1 (N - 1) (by omega)).2, (lk59.1 (N - 1) (by omega)).2]
  have s510 : s5 + 1 ≤ s10 := by have l59 := pk59.1.2.1; have l10 := pk10.1.2.1; omega
  have w510 : w5 + 1 ≤ w10 := pk10.1.1
  have k17c : ∀ j, j < s10 → K17 14 j = K10 14 j := fun j hj => x17 14 j (by omega) (by omega) (by omega) (by omega) (by omega)
  have k17d : K17 14 (s10 + 1) = K5 65 (N - 1) := t4.trans k65
  have k17e : K17 65 (N - 1) = s10 + 1 := t9
  have jcA : jc (K17 14) (K17 65 (N - 1)) (s10 + 1 + 1 + 1 + 1) ((s10 + 1) :: Jc) := by
    rw [k17e]
    refine ⟨rfl, by omega, ?_⟩
    rw [k17d]
    exact jc_le (jc_ext jcc (fun j hj => by
      have hlt := jc_lt jcc j hj
      rw [k17c j (by omega), pk10.2.2.1.1 14 j (by decide) (by decide) (by omega), pk59.2.2.1.1 14 j (by decide) (by decide) hlt])) (by omega)
  obtain ⟨H19, K19, e228, e120, r19, c19, b19, f19, ⟨y19a, y19b, y19⟩, ⟨z19a, z19b, z19c, z19⟩⟩ := lp_end (a1 := a1) (o := G 65 (N - 1)) (d := c) hn2 r18 c17 b17 (by omega) (by omega) (by omega) jrA jcA hok (fun _ _ _ z => z) (bz_fr b17)
  rw [e228, od_bS] at h34
  rw [e120, od_bS]
  refine wok_r ?_
  dsimp only
  have g19 := hgoA _ (rgo_i h34 (by decide) r19.1.1 (rm_fr_trans f18 f19))
  -- memories compared
  have hlv : ∀ g, np ≤ g → ¬ lvl N G g := fun g hg ⟨l, l1, l2⟩ => by have := h62 l l1; omega
  have k62a : ∀ l, l < N → K2 62 l = G 62 l := fun l hl => by rw [k2 62 l (by decide), (E1.2.2.2.2.1.2.2.1 l hl).1]
  have k62b : ∀ l, l < N → K5 62 l = G 62 l := fun l hl => by rw [gk5.1 l hl, k62a l hl]
  have k62c : ∀ l, l < N → K8 62 l = G 62 l := fun l hl => by rw [(E8.2.2.2.2.1.2.2.1 l hl).1, (E67.2.2.2.2.1.2.2.1 l hl).1, k62b l hl]
  have p5 := ge5.2.2.2.1
  rw [lvl_eq k62a, k62a (N - 1) (by omega)] at p5
  rw [lvl_eq k62c, k62c (N - 1) (by omega)] at pk10
  rw [lvl_eq k62b, k62b (N - 1) (by omega)] at pk59
  have p5' := p5
  obtain ⟨⟨l51, l52, l53, l54, l55⟩, ka5, kb5, ⟨qJ, qI⟩, _⟩ := p5'
  have pk' := pk10
  obtain ⟨⟨l61, l62, l63, l64, l65⟩, kaE, kbE, _, _⟩ := pk'
  have qj5 : ∀ j ∈ Jr, j < w5 := fun j hj => (qJ j hj).2
  have ka8 : ka (jl_up H10 21 Jr (wj + 1)) H19 w10 nw10 np10 (lvl N G) := ka_x (fun d j q => by
    rw [y19 d j (by omega) (by omega)]
    unfold jl_up
    by_cases z : d = 21 ∧ j ∈ Jr
    · rw [if_pos z, if_pos z]
    · rw [if_neg z, if_neg z, x18 d j (by omega) (by omega)])
  have kK17 : ∀ d j, (17 ≤ d ∧ d ≤ 23) ∨ (12 ≤ d ∧ d ≤ 15 ∧ j < s10) ∨ (d = 16 ∧ j < ns10) → K17 d j = K10 d j := fun d j q => x17 d j (by omega) (by omega) (by omega) (by omega) (by omega)
  have kb8 : kb (jl_up K10 14 Jc (s10 + 4)) K19 s10 ns10 np10 (lvl N G) := kb_x (fun d j q => by
    rw [z19 d j (by omega) (by omega) (by omega) (by omega)]
    unfold jl_up
    by_cases z : d = 14 ∧ j ∈ Jc
    · rw [if_pos z, if_pos ⟨z.1, List.mem_cons_of_mem _ z.2⟩]
    · rw [if_neg z, if_neg (fun y => (List.mem_cons.mp y.2).elim (fun u => by omega) (fun u => z ⟨y.1, u⟩)), kK17 d j (by omega)])
  have kaH : ka H5 H10 w5 nw5 np5 (lvl N G) := ka_trans pk59.2.1 kaE (by omega) (Nat.le_refl _) (Nat.le_refl _)
  have kbH : kb K5 K10 s5 ns5 np5 (lvl N G) := kb_trans pk59.2.2.1 kbE (by omega) (Nat.le_refl _) (Nat.le_refl _)
  have ka59 : ka (jl_up H5 21 Jr (wj + 1)) H19 w5 nw5 np5 (lvl N G) := ka_trans (ka_jl kaH) ka8 (by omega) l63 l65
  have kb59 : kb (jl_up K5 14 Jc (s10 + 4)) K19 s5 ns5 np5 (lvl N G) := kb_trans (kb_jl kbH) kb8 (by omega) l64 l65
  have y195 : H19 20 w5 = 0 := by
    rw [y19 20 w5 (by decide) (by omega), jl_ne (by omega), x18 20 w5 (by decide) (by omega), kaE.1 20 w5 (by decide) (by decide) (by omega)]
    exact y9
  have y19w : H19 20 w = 0 := by
    by_cases z : w < w5
    · rw [ka59.1 20 w (by decide) (by decide) z, jl_ne (by omega)]
      exact hs5 z
    · rw [show w = w5 by omega]
      exact y195
  have slo : voff N < voff5 N → (∀ e ∈ a, H10 30 (voff N) + 5 ≤ e) ∧ ∀ e ∈ c, e < H10 30 (voff N) + 5 := fun hv => by
    have y := E10.2.2.1.2.2.2.2.1 (N - 1) (voff N) (by omega) (by rw [(v5.1 (N - 1) (by omega)).2]; exact hlo.2) (by rw [show N - 1 + 1 = N by omega]; exact hv)
    rw [cxf_t (by omega), kk5 _ (E10.2.2.1.1.2.2.1 _ hv).1 61 (Or.inr rfl), apos (voff N) (Nat.le_refl _) hv, Nat.sub_self, Nat.add_zero] at y
    exact cx_at_lo (cx_at_dn (a := [0]) (fun e he => by rw [List.mem_singleton.mp he]; decide) y) a5 hfs5
  have hwj2 : (wj = w10 ∧ a = []) ∨ (wj = w10 + 1 ∧ H19 20 w10 = 20 ∧ (∀ e ∈ a, H19 21 w10 + 5 ≤ e) ∧ ∀ e ∈ c, e < H19 21 w10 + 5) := by
    rcases w18 with z | ⟨z1, z2, z3, z4⟩
    · exact Or.inl z
    · have t20 : H19 20 w10 = 20 := by
        rw [y19 20 w10 (by decide) (by omega), jl_ne (by omega)]
        exact z2
      have t21 : H19 21 w10 = H10 30 (voff N) := by
        rw [y19 21 w10 (by decide) (by omega), jl_ne (fun z => by have := qj5 _ z.2; omega)]
        exact z3
      refine Or.inr ⟨z1, t20, ?_, ?_⟩
      · rw [t21]
        exact (slo z4).1
      · rw [t21]
        exact (slo z4).2
  have nI : ∀ j, s10 + 1 < j → ¬ j ∈ (s10 + 1) :: Jc := fun j hj z => (List.mem_cons.mp z).elim (fun u => by omega) (fun u => by have := qI j u; omega)
  have nI0 : ¬ s10 ∈ (s10 + 1) :: Jc := fun z => (List.mem_cons.mp z).elim (fun u => by omega) (fun u => by have := qI s10 u; omega)
  have SG := sg_rp (cb := cb) (a1 := a1) (s := s) (w := w) (A9 := H19) (B9 := K19) (wj := wj) p5 pk10 (st_pre_trans E59.2.2.2.2.1.1.1 E10.2.2.2.2.1.1.1) (st_pre_trans E59.2.2.2.2.1.2.1 E10.2.2.2.2.1.2.1) hlv hfN ka59 kb59 ka8 kb8 hwj2
    ⟨y19w, y195, by rw [y19 20 wj (by decide) (by omega), jl_ne (by omega)]; exact y22, by rw [y19 21 wj (by decide) (by omega), jl_ne (fun z => by have := qj5 _ z.2; omega)]; exact y21, y19a, y19b⟩
    ⟨by rw [z19 12 s5 (by omega) (by omega) (by omega) (by omega), jl_ne (by omega), kK17 12 s5 (by omega), kbE.1 12 s5 (by decide) (by decide) (by omega)]; exact i8.1,
      by rw [z19 12 s10 (by omega) (by omega) (by omega) (by omega), jl_ne (by omega)]; exact t1,
      by rw [z19 14 s10 (by omega) (by omega) (by omega) (by omega), jl_ne (fun z => nI0 z.2)]; exact t2,
      by rw [z19 12 (s10 + 1) (by omega) (by omega) (by omega) (by omega), jl_ne (by omega)]; exact t3,
      by rw [z19 14 (s10 + 1) (by omega) (by omega) (by omega) (by omega), jl_at (List.mem_cons_self ..)],
      by rw [z19 12 (s10 + 2) (by omega) (by omega) (by omega) (by omega), jl_ne (by omega)]; exact t5,
      by rw [z19 13 (s10 + 2) (by omega) (by omega) (by omega) (by omega), jl_ne (by omega)]; exact t6,
      by rw [z19 12 (s10 + 3) (by omega) (by omega) (by omega) (by omega), jl_ne (by omega)]; exact t7,
      by rw [z19 14 (s10 + 3) (by omega) (by omega) (by omega) (by omega), jl_ne (fun z => nI (s10 + 3) (by omega) z.2)]; exact t8, z19a, z19b⟩ hfr cb
  have kaF : ka F1 H19 w nw np (lvl N G) := ka_trans (ka_trans (ka_x (fun d j q => x4 d j (by omega) (by omega) (by omega))) ka5 (Nat.le_refl _) (Nat.le_refl _) (Nat.le_refl _)) (ka_trans (ka_x (w := w) (nw := nw) (m := np) (F := H5) (H := jl_up H5 21 Jr (wj + 1)) (fun d j q => jl_ne (fun z => by have := qJ j z.2; omega))) ka59 (by omega) l53 l55) (Nat.le_refl _) (Nat.le_refl _) (Nat.le_refl _)
  have kbF : kb K1 K19 s ns np (lvl N G) := kb_trans (kb_trans (kb_x (fun d j q => k2 d j (by omega))) kb5 (Nat.le_refl _) (Nat.le_refl _) (Nat.le_refl _)) (kb_trans (kb_x (w := s) (nw := ns) (m := np) (F := K5) (H := jl_up K5 14 Jc (s10 + 4)) (fun d j q => jl_ne (fun z => by have := qI j z.2; omega))) kb59 (by omega) l54 l55) (Nat.le_refl _) (Nat.le_refl _) (Nat.le_refl _)
  have PJ : pj ls10 cs10 (lvl N G) (G 62 (N - 1)) cb F1 K1 w s nw ns np c H19 K19 (wj + 1 + 1) (s10 + 1 + 1 + 1 + 1 + 1) nw10 ns10 np10 c [] [] := ⟨⟨by omega, by omega, by omega, by omega, by omega⟩, kaF, kbF, ⟨fun j hj => absurd hj (List.not_mem_nil), fun j hj => absurd hj (List.not_mem_nil)⟩, SG⟩
  have sfA : st_sf ls ls10 := st_sf_trans ge5.2.2.2.2.1.1 (st_sf_trans E59.2.2.2.2.1.1 E10.2.2.2.2.1.1)
  have spA : st_pre ms cs10 := st_pre_trans ge5.2.2.2.2.1.2.1 (st_pre_trans E59.2.2.2.2.1.2.1 E10.2.2.2.2.1.2.1)
  have PJ2 := pj_t E1.2.2.2.1 PJ sfA.1 spA hlv hfN
  have kbA := kb_trans E1.2.2.2.1.2.2.1 kbF (Nat.le_refl _) (Nat.le_refl _) (Nat.le_refl _)
  have kaA := ka_trans E1.2.2.2.1.2.1 kaF (Nat.le_refl _) (Nat.le_refl _) (Nat.le_refl _)
  have lk1 := E1.2.2.2.2.1.2.2
  have K19k : ∀ d j, d = 62 ∨ d = 61 ∨ d = 60 ∨ (d = 65 ∧ ¬ j = N - 1) → K19 d j = K17 d j := fun d j q => by
    rw [z19 d j (by omega) (by omega) (by omega) (by omega), jl_ne (by omega)]
  refine Or.inl ⟨i10, wj + 1 + 1, s10 + 1 + 1 + 1 + 1 + 1, nw10, ns10, np10, ls10, cs10, H19, c, off, voff, ph, L, [], [], rgo_t g10' g19, ⟨r19, c19, b19, PJ2, ⟨sfA, st_pre_trans E1.2.2.2.2.1.2.1 spA, ⟨fun l hl => ?_, fun l hl => ?_, fun x hx e6 h6 => ?_⟩⟩, ⟨by omega, n10⟩, ve_refl, bo_x hbo (fun j hj => kaA.1 21 j (by decide) (by decide) hj) (fun j hj => kbA.1 14 j (by decide) (by decide) hj) z19c (by omega) (by omega), lt2_refl⟩, lo_refl rfl, ⟨by omega, by omega, by omega, by omega, by omega⟩, by omega⟩
  · rw [K19k 62 l (by omega), kk 62 l (by omega), (lk10.1 l hl).1, (lk59.1 l hl).1]
    exact k62b l hl
  · rw [K19k 65 l (by omega), x17 65 l (by omega) (by omega) (by omega) (by omega) (by omega), (lk10.1 l (by omega)).2, (lk59.1 l (by omega)).2, gk5.2.1 l hl, k2c l hl, (lk1.1 l (by omega)).2]
  · have ho := v5.2.1
    rw [K19k e6 x (by omega), kk e6 x (by omega), kk5 x (by omega) e6 h6, e61 x hx e6 h6]
end
