/-! ===== a64: names of a loop; small things (wip/whole2/lawa64.py) ===== -/
theorem fs_0 {c : List Nat} {e : Nat} (h : fs c) (he : e < 5) : fs (e :: c) := fun a x b hc hx y hy => by
  cases a with
  | nil =>
    have z := (List.cons.inj hc).1
    omega
  | cons e' a => exact h a x b (List.cons.inj hc).2 hx y hy
theorem jl_up_cm {G : wq_F} {J : List Nat} {v d x u : Nat} (h : ¬ d = 14) : jl_up (wq_up G d x u) 14 J v = wq_up (jl_up G 14 J v) d x u := funext fun e => funext fun j => by
  by_cases z : e = d ∧ j = x
  · rw [z.1, z.2, wq_up_same, jl_ne (fun y => h y.1), wq_up_same]
  · rw [wq_up_ne z]
    by_cases y : e = 14 ∧ j ∈ J
    · rw [y.1, jl_at y.2, jl_at y.2]
    · rw [jl_ne y, jl_ne y, wq_up_ne z]
theorem pg_em_cm {G : wq_F} {c x v op a b ln : Nat} (h : ¬ (11 ≤ c ∧ c ≤ 15)) : pg_em (wq_up G c x v) op a b ln = wq_up (pg_em G op a b ln) c x v := by
  unfold pg_em
  rw [wq_up_cell (F := G) (k := c) (k' := 11) (by omega), wq_up_cm (c := c) (x := x) (d := 12) (by omega), wq_up_cm (c := c) (x := x) (d := 13) (by omega), wq_up_cm (c := c) (x := x) (d := 14) (by omega), wq_up_cm (c := c) (x := x) (d := 15) (by omega), wq_up_cm (c := c) (x := x) (d := 11) (by omega)]
/-- a loop's end, the names closed before or behind it -/
theorem dk120_up {nn h o l a : Nat} {L : List Nat} {G K : wq_F} (hl : G 59 8 = l) (h24 : l < 24) (hj : jc (G 14) (G 65 l) 10000 L) (hs : G 11 4 < 10000) (hn : 10000 < nn) (hK : dk_120 nn (wq_up G 59 3 a) h o = some (0, K)) : ∃ K', dk_120 nn G h o = some (0, K') ∧ wq_up K' 59 3 a = K := by
  have e1 := dkS_120 (nn := nn) (h := h) (o := o) hl h24 hj hs hn
  have e2 := dkS_120 (nn := nn) (h := h) (o := o) (G := wq_up G 59 3 a) (l := l) (L := L) (by rw [wq_up_at (by decide)]; exact hl) h24 (by rw [wq_up_cell (show (65 : Nat) ≠ 59 by decide), show wq_up G 59 3 a 14 = G 14 from funext fun j => wq_up_cell (by decide)]; exact hj) (by rw [wq_up_cell (by decide)]; exact hs) hn
  rw [e2] at hK
  have hK := (Prod.mk.inj (Option.some.inj hK)).2
  refine ⟨_, e1, ?_⟩
  rw [← hK, wq_up_cell (F := G) (k := 59) (k' := 11) (by decide), jl_up_cm (by decide), wq_up_cm (c := 59) (x := 3) (d := 65) (fun z => absurd z.1 (by decide)), pg_em_cm (c := 59) (by decide), wq_up_cm (c := 59) (x := 3) (d := 64) (fun z => absurd z.1 (by decide))]
section
variable {nn : Nat} {T : Nat → Nat} {n M O : Nat} {G0 : wq_F} {c0 : List (List Nat)} {i t w s nw ns np N : Nat} {off voff ph : Nat → Nat} {cx : Nat → List Nat} {c cb : List Nat} {W : List (Nat × Nat × Nat × Nat)} {L : List (Nat × Nat)} {P Q : List (Nat × Nat × Nat)} {ls cs : List (List Nat)} {F G : wq_F}

variable {f i0 m v0 : Nat}
/-- the loop's names are known from here on -/
theorem lf_names (hM : tk_M T n M) (hr : ry T n M i ls t w nw np W L P F) (hc : cy T n G0 c0 O i cs s ns np N Q G) (hb : bz N (at_N off N (off N + m)) voff ph cx c np F ls G cs) (hnp : np ≤ 50) (hf : G 62 (N - 1) = f) (h61 : ∀ x, off N ≤ x → x < off N + m → G 61 x = 4294967295) (hnm : ∀ j, j < m → tk_k T n (i0 + 2 * j) = 1 ∧ G 60 (off N + j) < cs.length ∧ cs.getD (G 60 (off N + j)) [] = tk_B T n (tk_pos T n (i0 + 2 * j))) (h14 : v0 + m ≤ F 14 f) (hv : v0 + m ≤ 50) (hc5 : ∀ e ∈ c, e < v0 + 5) (hi0 : i0 + 2 * m ≤ M + 1) (hn : 10000 < nn) (hoff : off (N - 1) ≤ off N) (hh : hg c < 100000) :
    (dk_162 G (hg c + m) = some (0, wq_up G 64 (N - 1) (hg c + m)) ∧ dk_167 nn (wq_up G 64 (N - 1) (hg c + m)) (off N) (hg c) = some (0, (rv_up (wq_up G 64 (N - 1) (hg c + m)) (off N) m (hg c)))) ∧ ry T n M i ls t w nw np W L P (kn F (voff N) i0 v0 m) ∧ cy T n G0 c0 O i cs s ns np N Q (rv_up (wq_up G 64 (N - 1) (hg c + m)) (off N) m (hg c)) ∧ (∃ ph', bz N (at_N off N (off N + m)) (at_N voff N (voff N + m)) ph' cx (lcs v0 m ++ c) np (kn F (voff N) i0 v0 m) ls (rv_up (wq_up G 64 (N - 1) (hg c + m)) (off N) m (hg c)) cs ∧ (∀ k, k < voff N → ph' k = ph k) ∧ ∀ j, j < m → ph' (voff N + j) = off N + j) ∧ rm_fr F (kn F (voff N) i0 v0 m) ∧ F 0 50 = voff N ∧ voff N + m < 1600 := by
  have hM1 := hM.1
  have hiM := hr.1.2.2.1
  obtain ⟨l1, l2, l3, l4⟩ := cy_lv hc hb
  obtain ⟨n1, n2, n3, n4, n5, n6, n7, n8, n9⟩ := hb.1.1
  rw [at_N_is] at n7 n9
  have vle : voff N ≤ off N := pq_vo hb.1 at_N_is h61
  have hlb := lsb_len hb.2.2.2.2.2.2.2 hr.1.2.2.2.2.2.2
  have vr : ∀ j, j < m → F 11 (i0 + 2 * j) < ls.length ∧ ls.getD (F 11 (i0 + 2 * j)) [] = tk_B T n (tk_pos T n (i0 + 2 * j)) := fun j hj => by
    have y := (hr.1.2.2.2.2.2.1 (i0 + 2 * j) (by omega)).2.2.2 (Or.inl (hnm j hj).1)
    exact ⟨y.1, y.2.1⟩
  have d162 := dkS_162 (G := G) (h := hg c + m) l1 l2
  have n7' : wq_up G 64 (N - 1) (hg c + m) 59 3 = off N + m := (wq_up_cell (by decide)).trans n7
  have d167 := dkS_167 (nn := nn) (G := wq_up G 64 (N - 1) (hg c + m)) (a := off N) (m := m) (sl := hg c) n7' n9 (by omega) hn
  have r2 : ry T n M i ls t w nw np W L P (kn F (voff N) i0 v0 m) := ry_x hr (fun d j z => kn_c (fun y => z (by unfold ry_n; omega)) (fun y => z (by unfold ry_n; omega)))
  have c1 : cy T n G0 c0 O i cs s ns np N Q (wq_up G 64 (N - 1) (hg c + m)) := cy_up hc (by unfold cy_n; omega)
  have c2 : cy T n G0 c0 O i cs s ns np N Q (rv_up (wq_up G 64 (N - 1) (hg c + m)) (off N) m (hg c)) := cy_x c1 (fun d j z _ => rv_ne (fun y => z (by unfold cy_n; omega))) (fun j hj => by rw [rv_ne (by omega)]; exact c1.2.2.2.2.1 j hj) (fun l hl => by rw [rv_ne (by omega)]; exact c1.2.2.2.2.2 l hl)
  have ff2 : rm_fr F (kn F (voff N) i0 v0 m) := rm_fr_x (rm_fr_refl F) (fun d j a b e => kn_c (by omega) (by omega)) ⟨kn_c (by omega) (by omega), kn_c (by omega) (by omega), kn_c (by omega) (by omega)⟩
  refine ⟨⟨d162, d167⟩, r2, c2, ?_, ff2, n8, by omega⟩
  refine bz_reveal (a := off N) (m := m) (sl := hg c) (nr := fun j => F 11 (i0 + 2 * j)) (sr := fun j => v0 + j) (d := lcs v0 m ++ c) hb ⟨?_, ?_⟩ (by omega) (fun x a b => ?_) (fun j hj => ?_) ⟨fun j hj => ?_, fun x y a b => by show ¬ v0 + x = v0 + y; omega, fun j k hj a b => ?_⟩ ⟨?_, ?_, fun d hd => ?_, fun k hk => ⟨?_, ?_⟩, fun j hj => ⟨?_, ?_⟩⟩ ⟨fun d h1 h2 => ?_, fun x hx => ?_, fun j hj => ?_⟩ (fun l hl => ?_) (fun k a b z => ?_) (fun j hj => ?_) (fun e he => ?_)
  · rw [at_N_ne (by omega)]
    exact hoff
  · rw [at_N_is]
  · rw [at_N_is] at b
    exact h61 x a b
  · have y := vr j hj
    have z := hnm j hj
    exact ⟨y.1, z.2.1, y.2.trans z.2.2.symm⟩
  · rw [hf]
    show v0 + j < F 14 f
    omega
  · have y := hb.2.2.2.2.1 (N - 1) k (by omega) a (by rw [show N - 1 + 1 = N by omega]; exact b)
    rw [cxf_t (by omega)] at y
    intro z
    have y2 := cx_at_mem y
    rw [z] at y2
    have := hc5 _ y2
    omega
  · exact kn_c (by omega) (by omega)
  · exact kn_50
  · exact funext fun j => kn_c (by omega) (by omega)
  · exact kn_c (by omega) (by omega)
  · exact kn_c (by omega) (by omega)
  · rw [kn_29 hj]
  · exact kn_30 hj
  · exact funext fun j => (rv_ne (by omega)).trans (wq_up_cell h2)
  · exact (rv_ne (by omega)).trans (wq_up_cell (by decide))
  · exact rv_at hj
  · rw [rv_ne (by omega)]
    have y := hb.2.2.2.1 l hl
    by_cases z : l + 1 = N
    · rw [cxf_t z]
      rw [show l = N - 1 by omega, wq_up_same, hg_app, hg_lcs]
      omega
    · rw [cxf_f z] at y ⊢
      rw [wq_up_at (by omega)]
      exact y
  · exact cx_at_up z _
  · exact cx_at_app (cx_lcs hj)
  · rw [hf]
    rcases List.mem_append.mp he with x | x
    · have := (mem_lcs x).2
      omega
    · have := hc5 _ x
      omega
/-- the step of a loop that names none: 1 -/
theorem e_one {l l' : Nat} {kk : wq_F → Option (Nat × wq_F)} (hr : ry T n M i ls t w nw np W L P F) (hc : cy T n G0 c0 O i cs s ns np N Q G) (hb : bz N off voff ph cx c np F ls G cs) (hnp : np ≤ 50) (hs : s < 10000) (hw : w < 13990) (hnw : nw < 1501) (hns : ns < 10000) (hh : hg c < 100000) : (od_g (F 0 40 < 1501) <| od_up F 24 (F 0 40) ((18446744073709551617 - 18446744073709551616)) fun F7 => (dk_30 F7 4 (F7 0 40) 0 l).bind fun y10 => od_let (((y10.2 0 40) + 1) % 4294967296) fun y14 => od_up y10.2 0 40 y14 kk) = kk (wq_up (pm_em (wq_up F 24 nw 1) 4 nw 0 l) 0 40 (nw + 1)) ∧ rm_fr F (wq_up (pm_em (wq_up F 24 nw 1) 4 nw 0 l) 0 40 (nw + 1)) ∧ wok ((dk_157 G 18446744073709551617).bind fun y30 => dk_112 y30.2 3 y30.1 l' 1) (fun _ K => eg T n M G0 c0 O N off voff ph cx cb F G i ls cs w s nw ns np c t W L P Q (wq_up (pm_em (wq_up F 24 nw 1) 4 nw 0 l) 0 40 (nw + 1)) K i ls cs (w + 1) (s + 1) (nw + 1) (ns + 1) np (0 :: c)) := by
  have h40 : F 0 40 = nw := hr.2.1.2.2.1
  have hw1 : F 0 41 = w := hr.2.1.2.1
  have w1 : wq_up F 24 nw 1 0 41 = w := (wq_up_cell (by decide)).trans hw1
  have hat := pm_em_at (F := wq_up F 24 nw 1) (op := 4) (a := nw) (b := 0) (ln := l)
  rw [w1] at hat
  have hr1 : ry T n M i ls t (w + 1) nw np W L P (pm_em (wq_up F 24 nw 1) 4 nw 0 l) := ry_em (ry_up hr (by unfold ry_n; omega))
  have hr2 := ry_0 (j := 40) (v := nw + 1) hr1 (by decide)
  rw [if_neg (by decide), if_pos rfl, if_neg (by decide)] at hr2
  have hbf : bz N off voff ph cx c np (wq_up (pm_em (wq_up F 24 nw 1) 4 nw 0 l) 0 40 (nw + 1)) ls G cs := bz_fu (bz_em (bz_fu hb (by omega))) (by omega)
  have x2 : ∀ d j, ¬ d = 0 → ¬ (d = 24 ∧ j = nw) → ¬ (20 ≤ d ∧ d ≤ 23 ∧ j = w) → wq_up (pm_em (wq_up F 24 nw 1) 4 nw 0 l) 0 40 (nw + 1) d j = F d j := fun d j q1 q2 q3 => by
    rw [wq_up_cell q1, pm_em_ne (by rw [w1]; exact q3) (by omega), wq_up_ne q2]
  refine ⟨?_, rm_fr_up (rm_fr_em (rm_fr_up (rm_fr_refl _) (by decide) (fun z => absurd z (by decide)))) (by decide) (by decide), ?_⟩
  · rw [h40, od_g1 hnw, od_upS, wq_up_cell (by decide), h40, dkS_30 (by rw [w1]; omega), od_bS]
    dsimp only
    rw [pm_em_ne (by omega) (by omega), wq_up_cell (by decide), h40, Nat.mod_eq_of_lt (show nw + 1 < 4294967296 by omega), od_letS, od_upS]
  · refine wok_b (cy_157 (v := 1) hc hbf hns) fun r K1 h1 => ?_
    dsimp only
    obtain ⟨r1, c1, e1, k16, q1, _⟩ := h1
    rw [r1]
    refine wok_m (cy_p1 (e := 0) c1 e1 hs (by omega) (by decide)) fun r K h => ?_
    obtain ⟨c2, b2, i2, q2, _⟩ := h
    refine ⟨hr2, c2, b2, ?_, ⟨st_sf_refl _, st_pre_refl _, ⟨fun l _ => ⟨(q2 62 l (by omega)).trans (q1 62 l (by omega)), (q2 65 l (by omega)).trans (q1 65 l (by omega))⟩, fun l _ e6 h6 => (q2 e6 l (by omega)).trans (q1 e6 l (by omega))⟩⟩, Nat.le_refl _, hnp⟩
    refine pj_1 ⟨by omega, by omega, by omega, by omega⟩ (fun d j q => x2 d j (by omega) (by omega) (by omega)) (fun d j q => (q2 d j (by omega)).trans (q1 d j (by omega))) (fun H J nm ha hb2 _ => Or.inl ⟨3, ?_, ?_, ?_, ?_, ?_, rfl⟩)
    · rw [ha.1 20 w (by decide) (by decide) (by omega) (by omega), wq_up_cell (by decide)]
      exact hat.1
    · rw [hb2.1 12 s (by decide) (by decide) (by omega) (by omega)]
      exact i2.1
    · rw [ha.1 21 w (by decide) (by decide) (by omega) (by omega), wq_up_cell (by decide), hat.2.1]
      exact hnw
    · rw [hb2.1 13 s (by decide) (by decide) (by omega) (by omega), i2.2.1]
      omega
    · rw [ha.1 21 w (by decide) (by decide) (by omega) (by omega), wq_up_cell (by decide), hat.2.1, ha.2.1 nw (Nat.le_refl _) (by omega), wq_up_cell (by decide), pm_em_ne (by omega) (by omega), wq_up_same, hb2.1 13 s (by decide) (by decide) (by omega) (by omega), i2.2.1, hb2.2.1 ns (Nat.le_refl _) (by omega), q2 16 ns (by omega), k16]
/-- the names of a loop over rows -/
theorem dkL_269 {b : Nat} (hb : b + m < 1600) (hi : i0 + 2 * m < 1503) (hv : v0 + m < 4294967296) (h11 : ∀ j, j < m → F 11 (i0 + 2 * j) < 4294967296) (hw : F 0 46 < 4000) : ∀ g v, v ≤ m → m - v < g → dk_269_114 nn g (kn F b i0 v0 v) i0 m v0 v = some (1, pm_la (kn F b i0 v0 m) 0 0 0 0)
  | 0, v, _, h => absurd h (Nat.not_lt_zero _)
  | g + 1, v, h1, h2 => by
    show dk_269_114b nn (dk_269_114 nn g) (kn F b i0 v0 v) i0 m v0 v = _
    unfold dk_269_114b
    by_cases q : v < m
    · have e : (i0 + ev_oMul 2 v) % 4294967296 = i0 + 2 * v := by
        show (i0 + (2 * v) % 4294967296) % 4294967296 = _
        omega
      rw [if_pos ((wd_slt (by omega) (by omega)).mpr q), od_letS, e, od_g1 (by omega), od_letS, kn_c (by omega) (by omega), tb_l2i (h11 v q), Nat.mod_eq_of_lt (show v0 + v < 4294967296 by omega), kn_220 (by omega), od_bS]
      dsimp only
      rw [od_letS, Nat.mod_eq_of_lt (show v + 1 < 4294967296 by omega)]
      exact dkL_269 hb hi hv h11 hw g (v + 1) q (by omega)
    · rw [if_neg (fun z => q ((wd_slt (by omega) (by omega)).mp z)), show v = m by omega, dkS_31 (by rw [kn_c (by omega) (by omega)]; exact hw), od_bS]
end
