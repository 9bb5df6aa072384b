/-! ===== a65: the end of a loop with names (wip/whole2/lawa65.py) ===== -/
section
variable {nn : Nat} {T : Nat → Nat} {n M O : Nat} {G0 : wq_F} {c0 : List (List Nat)} {i t w s nw ns np N : Nat} {off voff ph : Nat → Nat} {cx : Nat → List Nat} {c cb : List Nat} {W : List (Nat × Nat × Nat × Nat)} {L : List (Nat × Nat)} {P Q : List (Nat × Nat × Nat)} {ls cs : List (List Nat)} {F G : wq_F}

variable {f i0 m v0 : Nat}

set_option maxHeartbeats 4000000 in
/-- ... 1 -/
theorem for_tail1 {D k st ar o : Nat} {mm : Option (Nat × wq_F)} {FA : wq_F} (hM : tk_M T n M) (hn : 10000 < nn) (hc0 : c0.length ≤ 1400) (hO : O ≤ 20000) (hn2 : 14000 < nn) (hD : D ≤ 20) (hBk : Bk_ok nn T n M G0 c0 O (D + 1)) (hkf : 20 * (22 - D) + 10 ≤ k) (htD : t = D) (hr : ry T n M i ls t (w + 1) nw np W ((w, N - 1) :: L) P F) (hc : cy T n G0 c0 O i cs (s + 1) ns np N Q G) (hb : bz N (at_N off N (off N + m)) voff ph cx (0 :: 0 :: 0 :: c) np F ls G cs) (hoff : off (N - 1) ≤ off N ∧ voff (N - 1) ≤ voff N) (hph : ∀ k, k < voff N → ph k < off N) (h61c : ∀ k, voff (N - 1) ≤ k → k < voff N → G 61 (ph k) < hg c) (hf : G 62 (N - 1) = f) (h14 : v0 + m ≤ F 14 f) (hv : v0 + m ≤ 50 ∧ 1 ≤ m) (hm1 : m = 1) (hc5 : ∀ e ∈ c, e < v0 + 5) (hfs : fs c) (hid : ∀ x, off N ≤ x → x < off N + m → G 61 x = 4294967295) (hnm : ∀ j, j < m → tk_k T n (i0 + 2 * j) = 1 ∧ G 60 (off N + j) < cs.length ∧ cs.getD (G 60 (off N + j)) [] = tk_B T n (tk_pos T n (i0 + 2 * j))) (hi0 : i0 + 2 * m ≤ M + 1) (hB : bnd i (w + 3) (s + 2) nw ns np t (hg c + 3 + m) W L P Q N) (hW : W.length ≤ 20 * t) (hL1 : L.length + 1 ≤ t) (h21 : F 21 w = 4294967295) (h14s : G 14 s = 4294967295) (h65 : G 65 (N - 1) = s) (ho : okj o) (hst : st ≤ w ∧ ar ≤ s) (hd : mm = (dk_31 F 34 st v0 (F 0 50)).bind fun y29 => od_g (i0 < 1502) <| od_let (18446744073709551616 + y29.2 11 i0) fun y34 => (dk_220 y29.2 (ev_oL2i y34) v0).bind fun y37 => (dk_31 y37.2 0 0 0 0).bind fun y41 => some (1, y41.2)) (hfA : rm_fr FA F) : wok ((dk_162 G (hg c + 3 + m)).bind fun y21 => (dk_167 nn y21.2 (off N) (hg c + 3)).bind fun y25 => (dk_R nn k 80 [D + 1] y25.2).bind fun y29 => (dk_110 nn y29.2 15).bind fun y33 => (dk_113 y33.2 (hg c + 3)).bind fun y37 => (dk_78 y37.2 33 (hg c) ar 0).bind fun y41 => (dk_120 nn y41.2 (hg c) o).bind fun y45 => some (0, y45.2)) (fun _ K => (∃ i' w5 s5 nw5 ns5 np5 ls5 cs5 H K2, wq_up K 59 3 (off N) = K2 ∧ rgo nn FA mm H ∧ ry T n M i' ls5 t (w5 + 4) nw5 np5 W L P H ∧ cy T n G0 c0 O i' cs5 (s5 + 3) ns5 np5 N Q K2 ∧ bz N off voff ph cx c np5 H ls5 K2 cs5 ∧ (st_sf ls ls5 ∧ st_pre cs cs5 ∧ i < i' ∧ np5 ≤ 50) ∧ (w + 1 ≤ w5 ∧ s + 1 ≤ s5 ∧ nw ≤ nw5 ∧ ns ≤ ns5 ∧ np ≤ np5) ∧ ka (jl_up F 21 [w] (w5 + 2)) H (w + 1) nw np (lvl N G) ∧ kb (jl_up G 14 [s] (s5 + 2)) K2 (s + 1) ns np (lvl N G) ∧ (K2 65 (N - 1) = o ∧ (∀ l, l < N → K2 62 l = G 62 l) ∧ (∀ l, l + 1 < N → K2 65 l = G 65 l) ∧ ∀ x, x < off N → ∀ e6, e6 = 60 ∨ e6 = 61 → K2 e6 x = G e6 x) ∧ (∀ (H' J : wq_F) (nm : Nat → Nat → Prop) (X : pt → Prop), H' 20 st = 0 → ag H H' (w + 1) (w5 + 4) nw nw5 np np5 (G 62 (N - 1)) → bg K2 J (s + 1) (s5 + 3) ns ns5 np np5 → nmr ls5 cs5 nm → sg H' J nm X (G 62 (N - 1), st, ar, (0 :: 0 :: 0 :: c)) → sg H' J nm X (G 62 (N - 1), w5 + 4, s5 + 3, c) → sg H' J nm X (G 62 (N - 1), w + 1, s + 1, lcs v0 m ++ (0 :: 0 :: 0 :: c)) ∧ ∀ a, (∀ e ∈ a, 3 ≤ e) → sg H' J nm X (G 62 (N - 1), w5 + 2, s5 + 2, a ++ (0 :: 0 :: 0 :: c))) ∧ w5 + 6 * i + 6 ≤ w + 1 + 6 * i' ∧ s5 + 4 * i + 4 ≤ s + 1 + 4 * i' ∧ nw5 + i ≤ nw + i' ∧ ns5 + i ≤ ns + i') ∨ ∃ e p, rba nn FA mm e p ∧ sx T n G0 c0 O e p N (zz D + 20) K) := by
  have hz : 6310 ≤ zz D ∧ zz D < 9800 ∧ zz (D + 1) + 110 = zz D := by unfold zz; omega
  obtain ⟨m1, m2, m3, m4, m5, m6, m7, m8, m9, m10, m11, m12⟩ := hB
  have hM1 := hM.1
  have hiM := hr.1.2.2.1
  have hN := hb.1.1
  have h62 := hb.2.2.2.2.2.1
  have hc3 : hg (0 :: 0 :: 0 :: c) = hg c + 3 := by rw [hg_0, hg_0, hg_0]
  have hc53 : ∀ e ∈ (0 :: 0 :: 0 :: c), e < v0 + 5 := fun e he => by
    rcases List.mem_cons.mp he with z | he
    · omega
    rcases List.mem_cons.mp he with z | he
    · omega
    rcases List.mem_cons.mp he with z | he
    · omega
    exact hc5 e he
  have hfs3 : fs (0 :: 0 :: 0 :: c) := fs_0 (fs_0 (fs_0 hfs (by decide)) (by decide)) (by decide)
  have h50 : F 0 50 = voff N := hb.1.1.2.2.2.2.2.2.2.1
  -- the reference: the loop's end waits, the names are known
  have hr1 := ry_la (k := 34) (x := st) (y := v0) (z := voff N) hr
  have b1 := bz_la (k := 34) (x := st) (y := v0) (z := voff N) hb
  have f1 : rm_fr FA (pm_la F 34 st v0 (voff N)) := rm_fr_la hfA
  have x1 : ∀ d j, ¬ d = 0 → ¬ (25 ≤ d ∧ d ≤ 28) → pm_la F 34 st v0 (voff N) d j = F d j := fun d j a b => pm_la_ne (by omega) (by omega)
  rw [h50, dkS_31 (by rw [hr.2.2.1.1]; omega), od_bS] at hd
  dsimp only at hd
  generalize pm_la F 34 st v0 (voff N) = F1 at *
  obtain ⟨⟨d162, d167⟩, r2, c2, ⟨ph', b2, hp1, hp2⟩, f2, h150, h1600⟩ := lf_names (i0 := i0) (v0 := v0) hM hr1 hc b1 m5 hf hid hnm (by rw [x1 14 f (by decide) (by decide)]; exact h14) hv.1 hc53 hi0 hn hoff.1 (by omega)
  rw [hc3] at d162 d167 c2 b2
  have vr : ∀ j, j < m → F1 11 (i0 + 2 * j) < 4294967296 := fun j hj => by
    have y := (hr1.1.2.2.2.2.2.1 (i0 + 2 * j) (by omega)).2.2.2 (Or.inl (hnm j hj).1)
    have hlb := lsb_len b1.2.2.2.2.2.2.2 hr1.1.2.2.2.2.2.2
    have := y.1
    omega
  have hd3 : mm = some (1, pm_la (kn F1 (voff N) i0 v0 m) 0 0 0 0) := by
    rw [hd]
    subst hm1
    have z := kn_220 (F := F1) (b := voff N) (i0 := i0) (v0 := v0) (v := 0) (by omega)
    rw [kn_0 h150] at z
    have z' : dk_220 F1 (F1 11 i0) v0 = some (0, kn F1 (voff N) i0 v0 1) := z
    have v0' : F1 11 i0 < 4294967296 := vr 0 (by omega)
    rw [od_g1 (by omega), od_letS, tb_l2i v0', z', od_bS]
    dsimp only
    rw [dkS_31 (by rw [kn_c (by omega) (by omega), hr1.2.2.1.1]; show W.length + 1 < 4000; omega), od_bS]
  have kc : ∀ d j, ¬ (d = 29 ∨ d = 30) → ¬ d = 0 → kn F1 (voff N) i0 v0 m d j = F1 d j := fun d j a b => kn_c (by omega) (by omega)
  have k30 : kn F1 (voff N) i0 v0 m 30 (voff N) = v0 := by
    have z := kn_30 (F := F1) (b := voff N) (i0 := i0) (v0 := v0) (m := m) (j := 0) (by omega)
    exact z
  have kr61 : ∀ x, off N ≤ x → x < off N + m → rv_up (wq_up G 64 (N - 1) (hg c + 3 + m)) (off N) m (hg c + 3) 61 x = hg c + 3 + (x - off N) := fun x a b => by
    have z := rv_at (G := wq_up G 64 (N - 1) (hg c + 3 + m)) (a := off N) (m := m) (sl := hg c + 3) (j := x - off N) (by omega)
    rw [show off N + (x - off N) = x by omega] at z
    exact z
  have krc : ∀ d j, ¬ (d = 61 ∧ off N ≤ j) → ¬ d = 64 → rv_up (wq_up G 64 (N - 1) (hg c + 3 + m)) (off N) m (hg c + 3) d j = G d j := fun d j a b => (rv_ne (by omega)).trans (wq_up_cell b)
  generalize kn F1 (voff N) i0 v0 m = F2 at *
  generalize rv_up (wq_up G 64 (N - 1) (hg c + 3 + m)) (off N) m (hg c + 3) = K2 at *
  rw [d162, od_bS]
  dsimp only
  rw [d167, od_bS]
  dsimp only
  have r3 := ry_la (k := 0) (x := 0) (y := 0) (z := 0) r2
  have b3 := bz_la (k := 0) (x := 0) (y := 0) (z := 0) b2
  have f3 : rm_fr FA (pm_la F2 0 0 0 0) := rm_fr_la (rm_fr_trans f1 f2)
  have x3 : ∀ d j, ¬ d = 0 → ¬ (25 ≤ d ∧ d ≤ 28) → ¬ (d = 29 ∨ d = 30) → pm_la F2 0 0 0 0 d j = F d j := fun d j a b e => by
    rw [pm_la_ne (by omega) (by omega), kc d j e a, x1 d j a b]
  have y30 : pm_la F2 0 0 0 0 30 (voff N) = v0 := (pm_la_ne (by omega) (by omega)).trans k30
  generalize pm_la F2 0 0 0 0 = F3 at *
  have g3 : rgo nn FA mm F3 := rgo_i hd3 (by decide) r3.1.1 f3
  have k65 : K2 65 (N - 1) = s := (krc 65 _ (by omega) (by decide)).trans h65
  have k14 : K2 14 s = 4294967295 := (krc 14 _ (by omega) (by decide)).trans h14s
  have y21 : F3 21 w = 4294967295 := (x3 21 w (by decide) (by decide) (by decide)).trans h21
  have k62 : ∀ l, l < N → K2 62 l = G 62 l := fun l hl => krc 62 l (by omega) (by decide)
  have hbo3 : bo N ((w, N - 1) :: L) F3 K2 (w + 1) (s + 1) [w] [s] := by
    refine ⟨fun e he => ?_, Or.inl ⟨w, L, rfl, ⟨rfl, by omega, by rw [y21]; exact ⟨by decide, by decide⟩⟩, ?_, by rw [k65]; omega⟩⟩
    · rcases List.mem_cons.mp he with q | q
      · rw [q]
        show N - 1 < N
        omega
      · exact m9.2 e q
    · rw [k65]
      exact ⟨rfl, by omega, by rw [k14]; exact ⟨by decide, by decide⟩⟩
  have hib3 : ib N ((w, N - 1) :: L) (0 :: 0 :: 0 :: c) (lcs v0 m ++ (0 :: 0 :: 0 :: c)) := fun _ => ⟨lcs v0 m, rfl, fun e he => by have := (mem_lcs he).1; omega⟩
  have hgl : hg (lcs v0 m ++ (0 :: 0 :: 0 :: c)) = m + (hg c + 3) := by rw [hg_app, hg_lcs, hc3]
  have okar : okj ar := okj_p (by omega)
  refine wok_b (hBk k i t (w + 1) (s + 1) nw ns np N _ _ ph' cx (lcs v0 m ++ (0 :: 0 :: 0 :: c)) (0 :: 0 :: 0 :: c) ((34, st, v0, voff N) :: W) ((w, N - 1) :: L) P Q ls cs F3 K2 [w] [s] (by omega) (by omega) r3 c2 b3 ⟨by omega, by omega, by omega, by omega, m5, m6, by omega, by show W.length + 1 ≤ _; omega, ⟨hL1, hbo3.1⟩, m10, m11, m12⟩ (by show W.length + 1 ≤ _; omega) hbo3 hib3 (fs_lcs_c hfs3 hc53)) fun r K5 h5 => ?_
  dsimp only
  rcases h5 with ⟨i5, w5, s5, nw5, ns5, np5, ls5, cs5, H5, c5, off5, voff5, ph5, L5, Jr, Jc, g5, ge5, lo5, ⟨u1, u2, u3, u4, u5⟩, hh5, _⟩ | ⟨e, p, ho', hx⟩
  rotate_left
  · refine wok_b (sxy_110 hx (by decide) (by decide)) fun r K h => ?_
    refine wok_b (sx_113 h (by omega)) fun r K h => ?_
    refine wok_b (sx_78 h (by omega) okar) fun r K h => ?_
    exact wok_b (sx_120 h.2 (by omega) ho hn) fun r K h => wok_r (Or.inr ⟨e, p, rgo_o g3 ho', sx_le h (by omega)⟩)
  have i5M := ge5.1.1.2.2.1
  have n5 : np5 ≤ 50 := ge5.2.2.2.2.2.1.2
  have v5 := ge5.2.2.2.2.2.2.1
  have lt5 := ge5.2.2.2.2.2.2.2.2
  have bo5 := ge5.2.2.2.2.2.2.2.1
  have gk5 := ge5.2.2.2.2.1.2.2
  have p5 := ge5.2.2.2.1
  have b5 := ge5.2.2.1
  obtain ⟨v5', eL5⟩ : ∃ v', L5 = (v', N - 1) :: L := by
    have q1 := lt5.1
    have q2 := lt5.2.1
    cases L5 with
    | nil => cases q2
    | cons z L0 =>
      obtain ⟨z1, z2⟩ := z
      have q3 : z2 :: L0.map Prod.snd = (N - 1) :: L.map Prod.snd := q2
      have q4 : L0 = L := q1
      injection q3 with q5 q6
      exact ⟨z1, by rw [q4, q5]⟩
  subst eL5
  obtain ⟨jr, jcc⟩ : jc (H5 21) v5' w5 (Jr ++ [w]) ∧ jc (K5 14) (K5 65 (N - 1)) s5 (Jc ++ [s]) := by
    rcases bo5.2 with ⟨x, L0, e, q1, q2, _⟩ | ⟨e, _⟩
    · injection e with e1' e2'
      injection e1' with e3' e4'
      rw [e3']
      exact ⟨q1, q2⟩
    · exact absurd (e (v5', N - 1) (List.mem_cons_self ..)) (Nat.lt_irrefl _)
  obtain ⟨a, ea, a5, al, apos, afs⟩ := lo5
  have fs5 := afs (fs_lcs_c hfs3 hc53)
  subst ea
  rw [at_N_is] at al
  have vv5 := v5.2.2.1
  rw [at_N_is] at vv5
  -- end
  have hgo5 := fun H => ry_go (nn := nn) (H := H) ge5.1 (by show W.length < 4000; omega)
  have hba5 := fun k p => ry_ba (nn := nn) (k := k) (p := p) ge5.1 (by show W.length < 4000; omega)
  have r15 := ry_pop ge5.1
  have b15 : bz N off5 voff5 ph5 cx (a ++ (lcs v0 m ++ (0 :: 0 :: 0 :: c))) np5 (wq_up H5 0 46 W.length) ls5 K5 cs5 := bz_fu b5 (by omega)
  have f15 : rm_fr H5 (wq_up H5 0 46 W.length) := rm_fr_up (rm_fr_refl _) (by decide) (by decide)
  have x15 : ∀ d j, ¬ d = 0 → wq_up H5 0 46 W.length d j = H5 d j := fun d j q => wq_up_cell q
  have h34 : dk_32 nn (wq_up H5 0 46 W.length) (34, st, v0, voff N).1 (34, st, v0, voff N).2.1 (34, st, v0, voff N).2.2.1 (34, st, v0, voff N).2.2.2 = dk_268 nn (wq_up H5 0 46 W.length) st v0 (voff N) := by
    show dk_32 nn (wq_up H5 0 46 W.length) 34 st v0 (voff N) = _
    rw [dk32_34b]
  generalize dk_32 nn (wq_up H5 0 46 W.length) (34, st, v0, voff N).1 (34, st, v0, voff N).2.1 (34, st, v0, voff N).2.2.1 (34, st, v0, voff N).2.2.2 = m5' at *
  generalize wq_up H5 0 46 W.length = H15 at *
  unfold dk_268 at h34
  refine wok_b (bt_wd (x := 6) (B := 6240) hM r15 ge5.2.1 b15 (by decide) (by omega) hc0 hO (by omega) (by omega) n5 (by omega)) fun r K16 h16 => ?_
  dsimp only
  rcases h16 with ⟨iM16, e16, ms16, c16, b16, f16, p16⟩ | ⟨kk, e16, hx⟩
  rotate_left
  · rw [e16, od_bS] at h34
    dsimp only at h34
    rw [if_pos rfl] at h34
    have ho' := hba5 _ _ (rba_f h34 f15 (by rw [r15.2.1.2.1]; omega))
    refine wok_b (sx_113 hx (by omega)) fun r K h => ?_
    refine wok_b (sx_78 h (by omega) okar) fun r K h => ?_
    exact wok_b (sx_120 h.2 (by omega) ho hn) fun r K h => wok_r (Or.inr ⟨_, _, rgo_o g3 (rm_to_out g5.1 g5.2 ho'), sx_le h (by omega)⟩)
  rw [e16, od_bS] at h34
  dsimp only at h34
  rw [if_neg (by decide)] at h34
  have r16 := ry_nx r15 iM16
  have f16r : rm_fr H5 (wq_up H15 0 25 (i5 + 1)) := rm_fr_up f15 (by decide) (by decide)
  have x16 : ∀ d j, ¬ d = 0 → wq_up H15 0 25 (i5 + 1) d j = H5 d j := fun d j q => (wq_up_cell q).trans (x15 d j q)
  have b16F : bz N off5 voff5 ph5 cx (a ++ (lcs v0 m ++ (0 :: 0 :: 0 :: c))) np5 (wq_up H15 0 25 (i5 + 1)) ls5 K16 ms16 := bz_fu b16 (by omega)
  generalize wq_up H15 0 25 (i5 + 1) = H16 at *
  have h1641 : H16 0 41 = w5 := r16.2.1.2.1
  have h1650 : H16 0 50 = voff5 N := b16F.1.1.2.2.2.2.2.2.2.1
  have vle := bz_vle b16F
  have ole := b16F.1.1.2.2.2.2.2.2.2.2
  rw [dkS_225 h1650 (by omega) (by omega) (by omega), if_pos (by omega), od_bS] at h34
  dsimp only at h34
  have at17 := pm_em_at (F := H16) (op := 20) (a := H16 30 (voff N)) (b := 0) (ln := 0)
  rw [h1641] at at17
  have r17 : ry T n M (i5 + 1) ls5 t (w5 + 1) nw5 np5 W ((v5', N - 1) :: L) P (wq_up (pm_em H16 20 (H16 30 (voff N)) 0 0) 0 50 (voff N)) := ry_up (ry_em r16) (by unfold ry_n; omega)
  have x17 : ∀ d j, ¬ d = 0 → ¬ (20 ≤ d ∧ d ≤ 23 ∧ j = w5) → wq_up (pm_em H16 20 (H16 30 (voff N)) 0 0) 0 50 (voff N) d j = H5 d j := fun d j y1 y2 => by
    rw [wq_up_cell y1, pm_em_ne (by omega) (by omega), x16 d j y1]
  have y17 : wq_up (pm_em H16 20 (H16 30 (voff N)) 0 0) 0 50 (voff N) 20 w5 = 20 ∧ wq_up (pm_em H16 20 (H16 30 (voff N)) 0 0) 0 50 (voff N) 21 w5 = H5 30 (voff N) := ⟨(wq_up_cell (by decide)).trans at17.1, ((wq_up_cell (by decide)).trans at17.2.1).trans (x16 30 _ (by decide))⟩
  have y17z : wq_up (pm_em H16 20 (H16 30 (voff N)) 0 0) 0 50 (voff N) 0 53 = H16 0 53 ∧ wq_up (pm_em H16 20 (H16 30 (voff N)) 0 0) 0 50 (voff N) 0 50 = voff N := ⟨by rw [wq_up_at (by decide), pm_em_ne (by omega) (by omega)], wq_up_same _ _ _ _⟩
  have f17 : rm_fr H5 (wq_up (pm_em H16 20 (H16 30 (voff N)) 0 0) 0 50 (voff N)) := rm_fr_up (rm_fr_em f16r) (by decide) (by decide)
  generalize wq_up (pm_em H16 20 (H16 30 (voff N)) 0 0) 0 50 (voff N) = H17 at *
  have h1741 : H17 0 41 = w5 + 1 := r17.2.1.2.1
  -- the class: the stack cut, back
  obtain ⟨l1, l2, l3, l4⟩ := cy_lv c16 b16F
  have s16 : K16 11 4 = s5 := c16.2.1.1
  have at18 := pg_em_at (G := K16) (op := 27) (a := hg c + 3) (b := 0) (ln := 0)
  rw [s16] at at18
  rw [dkS_113 (h := hg c + 3) l1 l2 (by omega), od_bS]
  dsimp only
  have c17 : cy T n G0 c0 O (i5 + 1) ms16 (s5 + 1) ns5 np5 N Q (wq_up (pg_em K16 27 (hg c + 3) 0 0) 64 (N - 1) (hg c + 3)) := cy_up (cy_em c16 (okj_p (by decide))) (by unfold cy_n; omega)
  have z17 : ∀ d j, ¬ (12 ≤ d ∧ d ≤ 15 ∧ j = s5) → ¬ d = 11 → ¬ (d = 64 ∧ j = N - 1) → wq_up (pg_em K16 27 (hg c + 3) 0 0) 64 (N - 1) (hg c + 3) d j = K16 d j := fun d j y1 y2 y3 => by
    rw [wq_up_ne y3, pg_em_ne (by omega) (by omega)]
  have z17a : wq_up (pg_em K16 27 (hg c + 3) 0 0) 64 (N - 1) (hg c + 3) 12 s5 = 27 ∧ wq_up (pg_em K16 27 (hg c + 3) 0 0) 64 (N - 1) (hg c + 3) 13 s5 = hg c + 3 ∧ wq_up (pg_em K16 27 (hg c + 3) 0 0) 64 (N - 1) (hg c + 3) 64 (N - 1) = hg c + 3 := ⟨(wq_up_cell (by decide)).trans at18.1, (wq_up_cell (by decide)).trans at18.2.1, wq_up_same _ _ _ _⟩
  generalize wq_up (pg_em K16 27 (hg c + 3) 0 0) 64 (N - 1) (hg c + 3) = K17 at *
  have s17 : K17 11 4 = s5 + 1 := c17.2.1.1
  rw [dkS_78 (by omega), od_bS]
  dsimp only
  have at19 := pg_em_at (G := K17) (op := 33) (a := (hg c)) (b := ar) (ln := 0)
  rw [s17] at at19
  have c18 : cy T n G0 c0 O (i5 + 1) ms16 (s5 + 1 + 1) ns5 np5 N Q (pg_em K17 33 (hg c) ar 0) := cy_em c17 okar
  have z18 : ∀ d j, ¬ (12 ≤ d ∧ d ≤ 15 ∧ s5 ≤ j) → ¬ d = 11 → ¬ (d = 64 ∧ j = N - 1) → pg_em K17 33 (hg c) ar 0 d j = K16 d j := fun d j y1 y2 y3 => by
    rw [pg_em_ne (by omega) (by omega), z17 d j (by omega) y2 y3]
  have z18b : pg_em K17 33 (hg c) ar 0 12 s5 = 27 ∧ pg_em K17 33 (hg c) ar 0 13 s5 = hg c + 3 ∧ pg_em K17 33 (hg c) ar 0 64 (N - 1) = hg c + 3 := ⟨(pg_em_ne (by omega) (by omega)).trans z17a.1, (pg_em_ne (by omega) (by omega)).trans z17a.2.1, (pg_em_ne (by omega) (by omega)).trans z17a.2.2⟩
  generalize pg_em K17 33 (hg c) ar 0 = K18 at *
  have k16 : ∀ d j, (10 < d ∧ ¬ d = 57) → K16 d j = K5 d j := fun d j q => f16 d j (by omega) (by omega) (by omega)
  have k18 : ∀ d j, (17 ≤ d ∧ d ≤ 23) ∨ (12 ≤ d ∧ d ≤ 15 ∧ j < s5) ∨ (d = 16 ∧ j < ns5) ∨ d = 62 ∨ d = 65 ∨ d = 61 ∨ d = 60 → K18 d j = K5 d j := fun d j q => by
    rw [z18 d j (by omega) (by omega) (by omega), k16 d j (by omega)]
  -- the reference goes back
  have h1756 : H17 0 56 = L.length + 1 := r17.2.2.2.1.1
  have h1733 : H17 33 L.length = v5' := r17.2.2.2.1.2.1.1
  rw [h1756, show (L.length + 1 + (4294967296 - 1)) % 4294967296 = L.length by omega, od_letS, od_letS, od_g1 (by omega), h1733, dkS_30 (by omega), od_bS] at h34
  dsimp only at h34
  rw [od_g1 (by omega), od_upS, h1741] at h34
  have at21 := pm_em_at (F := H17) (op := 41) (a := v5') (b := st) (ln := 0)
  rw [h1741] at at21
  have r18 : ry T n M (i5 + 1) ls5 t (w5 + 1 + 1) nw5 np5 W ((w5 + 1, N - 1) :: L) P (wq_up (pm_em H17 41 v5' st 0) 33 L.length (w5 + 1)) := ry_ch (ry_em r17)
  have x18 : ∀ d j, ¬ d = 0 → ¬ d = 33 → ¬ (20 ≤ d ∧ d ≤ 23 ∧ w5 ≤ j) → wq_up (pm_em H17 41 v5' st 0) 33 L.length (w5 + 1) d j = H5 d j := fun d j y1 y2 y3 => by
    rw [wq_up_cell y2, pm_em_ne (by omega) (by omega), x17 d j y1 (by omega)]
  have x18z : wq_up (pm_em H17 41 v5' st 0) 33 L.length (w5 + 1) 0 53 = H17 0 53 ∧ wq_up (pm_em H17 41 v5' st 0) 33 L.length (w5 + 1) 0 50 = H17 0 50 := ⟨by rw [wq_up_cell (by decide), pm_em_ne (by omega) (by omega)], by rw [wq_up_cell (by decide), pm_em_ne (by omega) (by omega)]⟩
  have y18 : wq_up (pm_em H17 41 v5' st 0) 33 L.length (w5 + 1) 20 w5 = 20 ∧ wq_up (pm_em H17 41 v5' st 0) 33 L.length (w5 + 1) 21 w5 = H5 30 (voff N) ∧ wq_up (pm_em H17 41 v5' st 0) 33 L.length (w5 + 1) 20 (w5 + 1) = 41 ∧ wq_up (pm_em H17 41 v5' st 0) 33 L.length (w5 + 1) 21 (w5 + 1) = v5' ∧ wq_up (pm_em H17 41 v5' st 0) 33 L.length (w5 + 1) 22 (w5 + 1) = st := ⟨by rw [wq_up_cell (by decide), pm_em_ne (by omega) (by omega)]; exact y17.1, by rw [wq_up_cell (by decide), pm_em_ne (by omega) (by omega)]; exact y17.2, (wq_up_cell (by decide)).trans at21.1, (wq_up_cell (by decide)).trans at21.2.1, (wq_up_cell (by decide)).trans at21.2.2.1⟩
  have f18 : rm_fr H5 (wq_up (pm_em H17 41 v5' st 0) 33 L.length (w5 + 1)) := rm_fr_up (rm_fr_em f17) (by decide) (fun z => absurd z (by decide))
  generalize wq_up (pm_em H17 41 v5' st 0) 33 L.length (w5 + 1) = H18 at *
  have jr18 : jc (H18 21) (w5 + 1) (w5 + 1 + 1) ((w5 + 1) :: (Jr ++ [w])) := by
    refine ⟨rfl, by omega, ?_⟩
    rw [y18.2.2.2.1]
    exact jc_le (jc_ext jr (fun j hj => x18 21 j (by decide) (by decide) (by have := jc_lt jr j hj; omega))) (by omega)
  have jc18 : jc (K18 14) (K18 65 (N - 1)) (s5 + 1 + 1) (Jc ++ [s]) := by
    rw [k18 65 _ (by omega)]
    exact jc_le (jc_ext jcc (fun j hj => k18 14 j (by have := jc_lt jcc j hj; omega))) (by omega)
  -- the names are gone
  have o5l : ∀ l, l < N → off5 l = off l ∧ voff5 l = voff l := fun l hl => ⟨(v5.1 l hl).1.trans (at_N_ne (by omega)), (v5.1 l hl).2.trans (at_N_ne (by omega))⟩
  have ov5 := v5.2.1
  rw [at_N_is] at ov5
  have ve' : ve N off voff ph off5 voff5 ph5 := by
    refine ⟨o5l, by omega, by omega, fun k hk => ?_, fun k y1 y2 => ?_⟩
    · rw [v5.2.2.2.1 k (by rw [at_N_is]; omega)]
      exact hp1 k hk
    · by_cases z : k < voff N + m
      · rw [v5.2.2.2.1 k (by rw [at_N_is]; exact z)]
        obtain ⟨j, rfl⟩ : ∃ j, k = voff N + j := ⟨k - voff N, by omega⟩
        rw [hp2 j (by omega)]
        omega
      · have y := v5.2.2.2.2 k (by rw [at_N_is]; omega) y2
        rw [at_N_is] at y
        omega
  have e61 : ∀ x, x < off N → ∀ e6, e6 = 60 ∨ e6 = 61 → K5 e6 x = G e6 x := fun x hx e6 h6 => by
    have y := gk5.2.2 x (by rw [at_N_is]; omega) e6 h6
    rw [y]
    exact krc e6 x (by omega) (by omega)
  have c18' : cy T n G0 c0 O (i5 + 1) ms16 (s5 + 1 + 1) ns5 np5 N Q (wq_up K18 59 3 (off N)) := cy_up c18 (by unfold cy_n; omega)
  have zc : ∀ d j, ¬ (d = 59 ∧ j = 3) → wq_up K18 59 3 (off N) d j = K18 d j := fun d j q => wq_up_ne q
  have b18 : bz N off voff ph cx (0 :: 0 :: 0 :: c) np5 H18 ls5 (wq_up K18 59 3 (off N)) ms16 := bz_close (a := a ++ lcs v0 m) (F := H16) (G := K16) (by rw [List.append_assoc]; exact b16F) ve' hph hoff (fun k y1 y2 => by
      rw [k16 61 _ (by decide), e61 _ (hph k y2) 61 (Or.inr rfl), hc3]
      have := h61c k y1 y2
      omega) ⟨x18z.1.trans y17z.1, x18z.2.trans y17z.2, fun d hd => funext fun j => by rw [x18 d j (by omega) (by omega) (by omega), x16 d j (by omega)]⟩ ⟨by rw [zc 59 8 (by decide), z18 59 8 (by omega) (by omega) (by omega)], wq_up_same _ _ _ _, fun d hd => funext fun j => by rw [zc d j (by omega), z18 d j (by omega) (by omega) (by omega)]⟩ (fun l hl => by
      by_cases z : l = N - 1
      · rw [if_pos z, z, zc 64 _ (by omega), z18b.2.2, hc3]
      · rw [if_neg z, zc 64 _ (by omega), z18 64 l (by omega) (by omega) (by omega)])
  have hc5' : ∀ e ∈ c, e < H18 14 (wq_up K18 59 3 (off N) 62 (N - 1)) + 5 := fun e he => bz_fr b18 e (List.mem_cons_of_mem _ (List.mem_cons_of_mem _ (List.mem_cons_of_mem _ he)))
  obtain ⟨H19, K19, e228, e120, r19, c19, b19, f19, ⟨y19a, y19b, y19⟩, ⟨z19a, z19b, z19c, z19⟩⟩ := lp_end (a1 := v0) (o := o) (d := c) hn2 r18 c18' b18 (by omega) (by omega) (by omega) jr18 (by rw [show wq_up K18 59 3 (off N) 14 = K18 14 from funext fun j => zc 14 j (by omega), zc 65 _ (by omega)]; exact jc18) ho (fun _ _ _ z => cx_at_dn (a := [0, 0, 0]) (fun e he => by rcases List.mem_cons.mp he with z | z; omega; rcases List.mem_cons.mp z with z | z; omega; have := List.mem_singleton.mp z; omega) z) hc5'
  obtain ⟨K20, e120', eK20⟩ := dk120_up (l := N - 1) (L := Jc ++ [s]) (by have z := b18.1.1; have y := zc 59 8 (by decide); omega) (by omega) (jc_le jc18 (by omega)) (by rw [c18.2.1.1]; omega) hn e120
  rw [e120', od_bS]
  refine wok_r ?_
  dsimp only
  have z19' : ∀ d j, ¬ (12 ≤ d ∧ d ≤ 15 ∧ j = s5 + 1 + 1) → ¬ (d = 11 ∧ j = 4) → ¬ (d = 65 ∧ j = N - 1) → ¬ (d = 64 ∧ j = N - 1) → ¬ (d = 59 ∧ j = 3) → K19 d j = jl_up K18 14 (Jc ++ [s]) (s5 + 1 + 1) d j := fun d j y1 y2 y3 y4 y5 => by
    rw [z19 d j y1 y2 y3 y4, jl_up_cm (by decide), wq_up_ne y5]
  rw [e228, od_bS] at h34
  dsimp only at h34
  have h1941 : H19 0 41 = w5 + 1 + 1 + 1 := r19.2.1.2.1
  rw [dkS_30 (by omega), od_bS] at h34
  have at20 := pm_em_at (F := H19) (op := 44) (a := 3) (b := 0) (ln := 0)
  rw [h1941] at at20
  have r20 : ry T n M (i5 + 1) ls5 t (w5 + 1 + 1 + 1 + 1) nw5 np5 W L P (pm_em H19 44 3 0 0) := ry_em r19
  have b20 : bz N off voff ph cx c np5 (pm_em H19 44 3 0 0) ls5 K19 ms16 := bz_em b19
  have x20 : ∀ d j, ¬ d = 0 → ¬ (20 ≤ d ∧ d ≤ 23 ∧ j = w5 + 1 + 1 + 1) → pm_em H19 44 3 0 0 d j = H19 d j := fun d j y1 y2 => pm_em_ne (by omega) (by omega)
  have f20 : rm_fr H5 (pm_em H19 44 3 0 0) := rm_fr_em (rm_fr_trans f18 f19)
  have g20 := hgo5 _ (rgo_i h34 (by decide) r20.1.1 f20)
  generalize pm_em H19 44 3 0 0 = H20 at *
  -- memories compared
  have p5' := p5
  rw [lvl_eq k62, k62 (N - 1) (by omega)] at p5'
  have p5'' := p5'
  obtain ⟨⟨l51, l52, l53, l54, l55⟩, ka5, kb5, ⟨qJ, qI⟩, sg5⟩ := p5''
  have hlv : ∀ g, np ≤ g → ¬ lvl N G g := fun g hg ⟨l, l1, l2⟩ => by have := h62 l l1; omega
  have hfN : G 62 (N - 1) < np := h62 (N - 1) (by omega)
  have memJ : ∀ j, j ∈ ((w5 + 1) :: (Jr ++ [w])) → w ≤ j ∧ j < w5 + 1 + 1 := fun j hj => by
    rcases List.mem_cons.mp hj with z | z
    · omega
    · exact (List.mem_append.mp z).elim (fun z => by have := qJ j z; omega) (fun z => by rw [List.mem_singleton.mp z]; omega)
  have memI : ∀ j, j ∈ Jc ++ [s] → s ≤ j ∧ j < s5 := fun j hj => (List.mem_append.mp hj).elim (fun z => by have := qI j z; omega) (fun z => by rw [List.mem_singleton.mp z]; omega)
  have hwin : w ∈ ((w5 + 1) :: (Jr ++ [w])) := List.mem_cons_of_mem _ (List.mem_append_right _ (List.mem_singleton.mpr rfl))
  have w5n : ¬ w5 ∈ ((w5 + 1) :: (Jr ++ [w])) := fun z => by
    rcases List.mem_cons.mp z with z | z
    · omega
    · exact (List.mem_append.mp z).elim (fun z => by have := qJ _ z; omega) (fun z => by have := List.mem_singleton.mp z; omega)
  have jeq : ∀ j, w < j → j < w5 → (j ∈ ((w5 + 1) :: (Jr ++ [w])) ↔ j ∈ Jr) := fun j h1 h2 => ⟨fun z => by
    rcases List.mem_cons.mp z with z | z
    · omega
    · exact (List.mem_append.mp z).elim id (fun z => by have := List.mem_singleton.mp z; omega), fun z => List.mem_cons_of_mem _ (List.mem_append_left _ z)⟩
  have jeqs : ∀ j, s < j → (j ∈ Jc ++ [s] ↔ j ∈ Jc) := fun j hj => ⟨fun z => (List.mem_append.mp z).elim id (fun z => by have := List.mem_singleton.mp z; omega), fun z => List.mem_append_left _ z⟩
  have HX : ∀ d j, ¬ d = 0 → ¬ d = 33 → ¬ (20 ≤ d ∧ d ≤ 23 ∧ w5 ≤ j) → H20 d j = jl_up H5 21 ((w5 + 1) :: (Jr ++ [w])) (w5 + 1 + 1) d j := fun d j y1 y3 y2 => by
    rw [x20 d j y1 (by omega), y19 d j y1 (by omega)]
    unfold jl_up
    by_cases z : d = 21 ∧ j ∈ ((w5 + 1) :: (Jr ++ [w]))
    · rw [if_pos z, if_pos z]
    · rw [if_neg z, if_neg z]
      rw [x18 d j y1 y3 (by omega)]
  have KX : ∀ d j, (17 ≤ d ∧ d ≤ 23) ∨ (12 ≤ d ∧ d ≤ 15 ∧ j < s5) ∨ (d = 16 ∧ j < ns5) ∨ d = 62 ∨ (d = 65 ∧ ¬ j = N - 1) ∨ d = 61 ∨ d = 60 → K19 d j = jl_up K5 14 (Jc ++ [s]) (s5 + 1 + 1) d j := fun d j q => by
    rw [z19' d j (by omega) (by omega) (by omega) (by omega) (by omega)]
    unfold jl_up
    by_cases z : d = 14 ∧ j ∈ Jc ++ [s]
    · rw [if_pos z, if_pos z]
    · rw [if_neg z, if_neg z, k18 d j (by omega)]
  have kaA : ka (jl_up F 21 [w] (w5 + 2)) H20 (w + 1) nw np (lvl N G) := by
    have A1 : ka F H5 (w + 1) nw np (lvl N G) := ka_trans (ka_x (fun d j q => x3 d j (by omega) (by omega) (by omega))) ka5 (Nat.le_refl _) (Nat.le_refl _) (Nat.le_refl _)
    refine ka_trans (ka_jl (v := w5 + 2) (J := [w]) A1) (ka_x (fun d j q => ?_)) (Nat.le_refl _) (Nat.le_refl _) (Nat.le_refl _)
    rw [HX d j (by omega) (by omega) (by omega)]
    unfold jl_up
    by_cases z : d = 21 ∧ j = w
    · rw [if_pos ⟨z.1, by rw [z.2]; exact hwin⟩, if_pos ⟨z.1, List.mem_singleton.mpr z.2⟩]
    · rw [if_neg (fun y => by have := memJ j y.2; omega), if_neg (fun y => z ⟨y.1, List.mem_singleton.mp y.2⟩)]
  have kbA : kb (jl_up G 14 [s] (s5 + 2)) K19 (s + 1) ns np (lvl N G) := by
    have A1 : kb G K5 (s + 1) ns np (lvl N G) := kb_trans (kb_x (fun d j q => krc d j (by omega) (by omega))) kb5 (Nat.le_refl _) (Nat.le_refl _) (Nat.le_refl _)
    refine kb_trans (kb_jl (v := s5 + 2) (J := [s]) A1) (kb_x (fun d j q => ?_)) (Nat.le_refl _) (Nat.le_refl _) (Nat.le_refl _)
    rw [KX d j (by omega)]
    unfold jl_up
    by_cases z : d = 14 ∧ j = s
    · rw [if_pos ⟨z.1, by rw [z.2]; exact List.mem_append_right _ (List.mem_singleton.mpr rfl)⟩, if_pos ⟨z.1, List.mem_singleton.mpr z.2⟩]
    · rw [if_neg (fun y => by have := memI j y.2; omega), if_neg (fun y => z ⟨y.1, List.mem_singleton.mp y.2⟩)]
  have kc18 : ∀ d j, 12 ≤ d → d ≤ 15 → ¬ d = 14 → s5 ≤ j → j < s5 + 1 + 1 → K19 d j = K18 d j := fun d j y1 y2 y3 y4 y5 => by
    rw [z19' d j (by omega) (by omega) (by omega) (by omega) (by omega), jl_ne (by omega)]
  have k14b : K19 14 (s5 + 1) = ar := by
    rw [z19' 14 (s5 + 1) (by omega) (by omega) (by omega) (by omega) (by omega), jl_ne (fun y => by have := memI _ y.2; omega)]
    exact at19.2.2.1
  have hlow : ∀ e ∈ (0 :: 0 :: 0 :: c), e < H5 30 (voff N) + 5 := by
    have y := b5.2.2.2.2.1 (N - 1) (voff N) (by omega) (by rw [(o5l (N - 1) (by omega)).2]; exact hoff.2) (by rw [show N - 1 + 1 = N by omega]; omega)
    rw [cxf_t (by omega)] at y
    have p0 : ph5 (voff N) = off N := by
      rw [v5.2.2.2.1 (voff N) (by rw [at_N_is]; omega)]
      exact hp2 0 (by omega)
    have k61 : K5 61 (off N) = hg c + 3 := by
      rw [gk5.2.2 (off N) (by rw [at_N_is]; omega) 61 (Or.inr rfl), kr61 (off N) (Nat.le_refl _) (by omega), Nat.sub_self, Nat.add_zero]
    rw [p0, k61, ← List.append_assoc] at y
    exact cx_at_hi (by rw [hc3]; exact Nat.le_refl _) y (by rw [List.append_assoc]; exact fs5)
  have body : ∀ (H' J : wq_F) (nm : Nat → Nat → Prop) (X : pt → Prop), H' 20 st = 0 → ag H20 H' (w + 1) (w5 + 4) nw nw5 np np5 (G 62 (N - 1)) → bg K19 J (s + 1) (s5 + 3) ns ns5 np np5 → nmr ls5 ms16 nm → sg H' J nm X (G 62 (N - 1), st, ar, (0 :: 0 :: 0 :: c)) → sg H' J nm X (G 62 (N - 1), w5 + 4, s5 + 3, c) → sg H' J nm X (G 62 (N - 1), w + 1, s + 1, lcs v0 m ++ (0 :: 0 :: 0 :: c)) ∧ ∀ a, (∀ e ∈ a, 3 ≤ e) → sg H' J nm X (G 62 (N - 1), w5 + 2, s5 + 2, a ++ (0 :: 0 :: 0 :: c)) := fun H' J nm X hst0 e1 e2 e3 hh he => by
    have rA : ∀ d p, 20 ≤ d → d ≤ 23 → w + 1 ≤ p → p < w5 + 4 → H' d p = H20 d p := e1.1
    have rB : ∀ d p, 12 ≤ d → d ≤ 15 → s + 1 ≤ p → p < s5 + 3 → J d p = K19 d p := e2.1
    have ex : ∀ a, (∀ e ∈ a, 3 ≤ e) → sg H' J nm X (G 62 (N - 1), w5 + 2, s5 + 2, a ++ (0 :: 0 :: 0 :: c)) := fun a ha => by
      refine sg_s (l := [(G 62 (N - 1), w5 + 2 + 2, s5 + 2 + 1, c)]) (Or.inl ⟨22, ?_, ?_, ?_, ?_, a, c, rfl, ha, ?_, ?_, rfl⟩) (fun v hv => ?_)
      · show H' 20 (w5 + 2) = 20
        rw [rA 20 (w5 + 2) (by decide) (by decide) (by omega) (by omega), x20 20 (w5 + 2) (by decide) (by omega)]
        exact y19a
      · show H' 20 (w5 + 2 + 1) = 44
        rw [rA 20 (w5 + 2 + 1) (by decide) (by decide) (by omega) (by omega)]
        exact at20.1
      · show H' 21 (w5 + 2 + 1) = 3
        rw [rA 21 (w5 + 2 + 1) (by decide) (by decide) (by omega) (by omega)]
        exact at20.2.1
      · show J 12 (s5 + 2) = 27
        rw [rB 12 (s5 + 2) (by decide) (by decide) (by omega) (by omega)]
        exact z19a
      · show J 13 (s5 + 2) = hg c
        rw [rB 13 (s5 + 2) (by decide) (by decide) (by omega) (by omega)]
        exact z19b
      · show ∀ e ∈ c, e < H' 21 (w5 + 2) + 5
        rw [rA 21 (w5 + 2) (by decide) (by decide) (by omega) (by omega), x20 21 (w5 + 2) (by decide) (by omega), show H19 21 (w5 + 2) = v0 from y19b]
        exact hc5
      · rw [List.mem_singleton.mp hv]
        exact he
    refine ⟨?_, ex⟩
    refine sg5 H' J nm X (w5 + 1 + 1) (s5 + 1 + 1) ?_ ?_ (nmr_up e3 (st_pre_refl _) p16) (fun j hj => by have := qJ j hj; omega) (fun _ a ha => ex a (fun e he => by have := ha e he; omega)) ?_
    · have y := ag_1 (A := jl_up H5 21 ((w5 + 1) :: (Jr ++ [w])) (w5 + 1 + 1)) (v := w5) (nv := nw5) (k := np5) e1 (ka_x (lv := lvl N G) (fun d j q => HX d j (by omega) (by omega) (by omega))) (by omega) (Nat.le_refl _) (Nat.le_refl _) hlv (by omega)
      obtain ⟨y1, y2, y3, y4⟩ := y
      have nn' : ∀ (I : List Nat) (d j : Nat), ¬ d = 21 → jl_up H5 21 I (w5 + 1 + 1) d j = H5 d j := fun I d j hd => jl_ne (fun z => hd z.1)
      refine ⟨fun d p z1 z2 z3 z4 => ?_, fun k z1 z2 => ?_, fun g z1 z2 => ?_, ?_⟩
      · rw [y1 d p z1 z2 z3 z4]
        unfold jl_up
        by_cases x : d = 21 ∧ p ∈ Jr
        · rw [if_pos x, if_pos ⟨x.1, (jeq p (by omega) z4).mpr x.2⟩]
        · rw [if_neg x, if_neg (fun y => x ⟨y.1, (jeq p (by omega) z4).mp y.2⟩)]
      · rw [y2 k z1 z2, nn' _ 24 _ (by decide), nn' _ 24 _ (by decide)]
      · have yy := y3 g z1 z2
        rw [nn' _ 12 _ (by decide), nn' _ 13 _ (by decide), nn' _ 15 _ (by decide), nn' _ 16 _ (by decide)] at yy ⊢
        refine ⟨yy.1, fun k hk => ?_⟩
        have y5 := yy.2 k hk
        rw [nn' _ 18 _ (by decide), nn' _ 19 _ (by decide)] at y5 ⊢
        exact y5
      · rw [nn' _ 15 _ (by decide)] at y4 ⊢
        exact y4
    · have y := bg_1 (A := jl_up K5 14 (Jc ++ [s]) (s5 + 1 + 1)) (v := s5) (nv := ns5) (k := np5) e2 (kb_x (lv := lvl N G) (fun d j q => KX d j (by omega))) (by omega) (Nat.le_refl _) (Nat.le_refl _) hlv
      obtain ⟨y1, y2, y3⟩ := y
      have nn' : ∀ (I : List Nat) (d j : Nat), ¬ d = 14 → jl_up K5 14 I (s5 + 1 + 1) d j = K5 d j := fun I d j hd => jl_ne (fun z => hd z.1)
      refine ⟨fun d p z1 z2 z3 z4 => ?_, fun k z1 z2 => ?_, fun g z1 z2 => ?_⟩
      · rw [y1 d p z1 z2 z3 z4]
        unfold jl_up
        by_cases x : d = 14 ∧ p ∈ Jc
        · rw [if_pos x, if_pos ⟨x.1, (jeqs p (by omega)).mpr x.2⟩]
        · rw [if_neg x, if_neg (fun y => x ⟨y.1, (jeqs p (by omega)).mp y.2⟩)]
      · rw [y2 k z1 z2, nn' _ 16 _ (by decide), nn' _ 16 _ (by decide)]
      · have yy := y3 g z1 z2
        rw [nn' _ 17 _ (by decide), nn' _ 18 _ (by decide), nn' _ 20 _ (by decide), nn' _ 22 _ (by decide)] at yy ⊢
        refine ⟨yy.1, fun k hk => ?_⟩
        have y5 := yy.2 k hk
        rw [nn' _ 23 _ (by decide)] at y5 ⊢
        exact y5
    · -- the names end
      have hbk : sg H' J nm X (G 62 (N - 1), w5 + 1, s5 + 1, (0 :: 0 :: 0 :: c)) := by
        refine sg_s (l := [(G 62 (N - 1), st, ar, (0 :: 0 :: 0 :: c)), (G 62 (N - 1), w5 + 2, s5 + 1 + 1, (0 :: 0 :: 0 :: c))]) (Or.inr ⟨16, ?_, ?_, ?_, ?_, c, rfl, ?_, ?_⟩) (fun v hv => ?_)
        · show H' 20 (w5 + 1) = 41
          rw [rA 20 (w5 + 1) (by decide) (by decide) (by omega) (by omega), x20 20 (w5 + 1) (by decide) (by omega), y19 20 (w5 + 1) (by decide) (by omega), jl_ne (by omega)]
          exact y18.2.2.1
        · show J 12 (s5 + 1) = 33
          rw [rB 12 (s5 + 1) (by decide) (by decide) (by omega) (by omega), kc18 12 (s5 + 1) (by decide) (by decide) (by decide) (by omega) (by omega)]
          exact at19.1
        · show H' 20 (H' 22 (w5 + 1)) = 0
          rw [rA 22 (w5 + 1) (by decide) (by decide) (by omega) (by omega), x20 22 (w5 + 1) (by decide) (by omega), y19 22 (w5 + 1) (by decide) (by omega), jl_ne (by omega), y18.2.2.2.2]
          exact hst0
        · show w5 + 1 < H' 21 (w5 + 1)
          rw [rA 21 (w5 + 1) (by decide) (by decide) (by omega) (by omega), x20 21 (w5 + 1) (by decide) (by omega), y19 21 (w5 + 1) (by decide) (by omega), jl_at (List.mem_cons_self ..)]
          omega
        · show J 13 (s5 + 1) = hg c
          rw [rB 13 (s5 + 1) (by decide) (by decide) (by omega) (by omega), kc18 13 (s5 + 1) (by decide) (by decide) (by decide) (by omega) (by omega)]
          exact at19.2.1
        · show _ = [(G 62 (N - 1), H' 22 (w5 + 1), J 14 (s5 + 1), (0 :: 0 :: 0 :: c)), (G 62 (N - 1), H' 21 (w5 + 1), s5 + 1 + 1, (0 :: 0 :: 0 :: c))]
          rw [rA 22 (w5 + 1) (by decide) (by decide) (by omega) (by omega), x20 22 (w5 + 1) (by decide) (by omega), y19 22 (w5 + 1) (by decide) (by omega), jl_ne (by omega), y18.2.2.2.2, rB 14 (s5 + 1) (by decide) (by decide) (by omega) (by omega), k14b, rA 21 (w5 + 1) (by decide) (by decide) (by omega) (by omega), x20 21 (w5 + 1) (by decide) (by omega), y19 21 (w5 + 1) (by decide) (by omega), jl_at (List.mem_cons_self ..)]
        · rcases List.mem_cons.mp hv with z | z
          · rw [z]
            exact hh
          · rw [List.mem_singleton.mp z]
            exact ex [] (fun e he => absurd he (List.not_mem_nil))
      refine sg_s (l := [(G 62 (N - 1), w5 + 1, s5 + 1, (0 :: 0 :: 0 :: c))]) (Or.inl ⟨21, ?_, ?_, a ++ lcs v0 m, (0 :: 0 :: 0 :: c), by rw [List.append_assoc], fun e he => (List.mem_append.mp he).elim (fun z => by have := a5 e z; omega) (fun z => by have := (mem_lcs z).1; omega), ?_, ?_, rfl⟩) (fun v hv => ?_)
      · show H' 20 w5 = 20
        rw [rA 20 w5 (by decide) (by decide) (by omega) (by omega), x20 20 w5 (by decide) (by omega), y19 20 w5 (by decide) (by omega), jl_ne (by omega)]
        exact y18.1
      · show J 12 s5 = 27
        rw [rB 12 s5 (by decide) (by decide) (by omega) (by omega), kc18 12 s5 (by decide) (by decide) (by decide) (by omega) (by omega)]
        exact z18b.1
      · show J 13 s5 = hg (0 :: 0 :: 0 :: c)
        rw [rB 13 s5 (by decide) (by decide) (by omega) (by omega), kc18 13 s5 (by decide) (by decide) (by decide) (by omega) (by omega), hc3]
        exact z18b.2.1
      · show ∀ e ∈ (0 :: 0 :: 0 :: c), e < H' 21 w5 + 5
        rw [rA 21 w5 (by decide) (by decide) (by omega) (by omega), x20 21 w5 (by decide) (by omega), y19 21 w5 (by decide) (by omega), jl_ne (fun z => w5n z.2), y18.2.1]
        exact hlow
      · rw [List.mem_singleton.mp hv]
        exact hbk
  have KK : ∀ d j, (17 ≤ d ∧ d ≤ 23) ∨ d = 62 ∨ (d = 65 ∧ ¬ j = N - 1) ∨ d = 61 ∨ d = 60 → K19 d j = K5 d j := fun d j q => by
    rw [KX d j (by omega), jl_ne (by omega)]
  refine Or.inl ⟨i5 + 1, w5, s5, nw5, ns5, np5, ls5, ms16, H20, K19, eK20, rgo_t g3 ⟨rm_trans g5.1 g20.1, rm_fr_trans g5.2 g20.2⟩, r20, c19, b20, ⟨ge5.2.2.2.2.1.1, st_pre_trans ge5.2.2.2.2.1.2.1 p16, by omega, n5⟩, ⟨by omega, by omega, by omega, by omega, by omega⟩, kaA, kbA, ⟨z19c, fun l hl => ?_, fun l hl => ?_, fun x hx e6 h6 => ?_⟩, body, by omega, by omega, by omega, by omega⟩
  · rw [KK 62 l (by omega), gk5.1 l hl, k62 l hl]
  · rw [KK 65 l (by omega), gk5.2.1 l hl]
    exact krc 65 l (by omega) (by decide)
  · rw [KK e6 x (by omega)]
    exact e61 x hx e6 h6
end
