/-! ===== a03: what is given to a function (wip/whole2/lawa03.py) ===== -/
section
variable {nn : Nat} {T : Nat → Nat} {n M O : Nat} {G0 : wq_F} {c0 : List (List Nat)} {i t w s nw ns np N : Nat} {off voff ph : Nat → Nat} {cx : Nat → List Nat} {c cb : List Nat} {W : List (Nat × Nat × Nat × Nat)} {L : List (Nat × Nat)} {P Q : List (Nat × Nat × Nat)} {ls cs : List (List Nat)} {F G : wq_F}

/-- the call where the class is stopped -/
theorem sx_93 {R : dk_Rt} {e p B h ln : Nat} (hx : sx T n G0 c0 O e p N B G) (hB : B < 9990) : wok (dk_139_93 R nn G h ln) (fun _ K => sx T n G0 c0 O e p N (B + 1) K) := by
  unfold dk_139_93
  refine wok_b (sx_78 hx (by omega) (okj_p (by decide))) fun r K h => ?_
  refine wok_b (sx_162 h.2) fun r K h => ?_
  exact wok_u (wok_r (sx_up h (by omega)))
theorem cal_t {A B H K H' K' : wq_F} {i' w' s' nw' ns' np' w'' s'' nw'' ns'' np'' : Nat} {ls' cs' ls'' cs'' : List (List Nat)} {c' d : List Nat} {e : Nat} (h : eg T n M G0 c0 O N off voff ph cx cb A B i ls cs w s nw ns np c t W L P Q H K i' ls' cs' w' s' nw' ns' np' c') (g : cal cb N H K w' s' nw' ns' np' c' H' K' ls'' cs'' w'' s'' nw'' ns'' np'' e d) (hl : st_pre ls' ls'') (hc : st_pre cs' cs'') (h62 : ∀ l, l < N → B 62 l < np) : cal cb N A B w s nw ns np c H' K' ls'' cs'' w'' s'' nw'' ns'' np'' e d := by
  obtain ⟨a1, a2, a3, a4, ⟨a5, a6, a7⟩, a8, a9⟩ := h
  have hN := a3.1.1.1
  unfold cal at *
  rw [lvl_eq (fun l hl => (a7.1 l hl).1), (a7.1 (N - 1) (by omega)).1] at g
  exact pj_t a4 g hl hc (fun g hg ⟨l, l1, l2⟩ => by have := h62 l l1; omega) (h62 (N - 1) (by omega))
/-- this sign is there, and taken on both sides -/
theorem bt_110 {x B : Nat} (hM : tk_M T n M) (hr : ry T n M i ls t w nw np W L P F) (hc : cy T n G0 c0 O i cs s ns np N Q G) (hb : bz N off voff ph cx c np F ls G cs) (hx : G 57 4 = x) (h6 : ¬ tk_k T n i = 6) (h7 : ¬ tk_k T n i = 7) (hn : 10000 < nn) (hc0 : c0.length ≤ 1400) (hO : O ≤ 20000) (hs : s ≤ B) (hns : ns ≤ 10000) (hnf : np ≤ 50) (hQ : Q.length ≤ 440) :
    wok (dk_110 nn G x) (fun _ K => (i < M ∧ dk_212 F = some (1, wq_up F 0 25 (i + 1)) ∧ ∃ ms, cy T n G0 c0 O (i + 1) ms s ns np N Q K ∧ bz N off voff ph cx c np F ls K ms ∧ px_fr G K ∧ st_pre cs ms) ∨ (dk_212 F = some (0, pm_f F 3 (tk_pos T n i)) ∧ sx T n G0 c0 O 3 (tk_pos T n i) N B K)) := by
  unfold dk_110
  refine wok_t hx (wok_b (bt_77 (B := B) hM hr hc hb h6 h7 (by omega) hc0 hO hs hns hnf hQ) fun r K h => wok_r h)
/-- a row -/
theorem R_ok {D k : Nat} (hM : tk_M T n M) (hE : E_ok nn T n M G0 c0 O D) (hk : 20 * (22 - D) + 21 ≤ k) (hD : D ≤ 21) (htD : t + 1 = D) (hn : 10000 < nn) (hc0 : c0.length ≤ 1400) (hO : O ≤ 20000) (hr : ry T n M i ls t w nw np ((3, 0, 0, 0) :: (14, 0, 0, 0) :: W) L P F) (hc : cy T n G0 c0 O i cs s ns np N Q G) (hb : bz N off voff ph cx c np F ls G cs) (hB : bnd i w s nw ns np t (hg c) ((14, 0, 0, 0) :: W) L P Q N) :
    wok (dk_R nn k 144 [D] G) (fun r K => (∃ i' w' s' nw' ns' np' ls' cs' H m c', (rm_to nn F H ∧ rm_fr F H) ∧ eg T n M G0 c0 O N off voff ph cx cb F G i ls cs w s nw ns np c t W L P Q H K i' ls' cs' w' s' nw' ns' np' c' ∧ rts i w s nw ns i' w' s' nw' ns' ∧ 1 ≤ m ∧ m ≤ 15 ∧ ((r = m * 2 ∧ c' = List.replicate m 0 ++ c) ∨ (r = m * 2 + 1 ∧ c' = 2 :: (List.replicate (m - 1) 0 ++ c)))) ∨ ∃ e p, rm_out nn e p F ∧ sx T n G0 c0 O e p N (zz D + 70) K) := by
  obtain ⟨k, rfl⟩ : ∃ m, k = m + 1 := ⟨k - 1, by omega⟩
  rw [dk_Re_144]
  unfold dk_144
  obtain ⟨g, hg'⟩ : ∃ m, nn = m + 1 := ⟨nn - 1, by omega⟩
  have e : dk_144_4 (dk_R nn k) nn nn G D 0 = dk_144_30 (dk_R nn k) nn (dk_144_4 (dk_R nn k) nn g) G D 0 := by
    have e1 : ∀ m, m = g + 1 → dk_144_4 (dk_R nn k) nn m G D 0 = dk_144_4b (dk_R nn k) nn (dk_144_4 (dk_R nn k) nn g) G D 0 := fun m hm => by
      rw [hm]
      rfl
    rw [e1 nn hg']
    unfold dk_144_4b
    rw [if_neg (by decide)]
    unfold dk_144_12
    rw [if_neg (by decide)]
  rw [e]
  exact row_loop (k := k) hM hE (by omega) hD htD hn hc0 hO g 0 i w s nw ns np ls cs F G (by decide) (by omega) hr hc hb hB
/-- what is given to the function that stands, and the call -/
theorem given_ok {D k : Nat} {a0 : List Nat} (hM : tk_M T n M) (hE : E_ok nn T n M G0 c0 O (D + 1)) (hT : Tb_ok nn T n M G0 c0 O D) (hk : 20 * (22 - D) + 9 ≤ k) (htD : t = D) (hD : D ≤ 20) (hr : ry T n M i ls t w nw np W L P F) (hc : cy T n G0 c0 O i cs s ns np N Q G) (hb : bz N off voff ph cx (a0 ++ 1 :: 0 :: c) np F ls G cs) (ha0 : ∀ e ∈ a0, e = 0) (hn : 10000 < nn) (hc0 : c0.length ≤ 1400) (hO : O ≤ 20000) (hB : bnd i w s nw ns np t (hg (a0 ++ 1 :: 0 :: c)) W L P Q N) (hW : W.length ≤ 20 * t + 8) (hgv : tk_k T n i = 3 ∨ (tk_k T n i = 5 ∧ (tk_V T n (tk_pos T n i) = 40 ∨ tk_V T n (tk_pos T n i) = 123))) :
    wok (dk_R nn k 139 [hg c, D] G) (fun _ K => (∃ i' w' s' nw' ns' np' ls' cs' H, rgo nn F (dk_246 F) H ∧ eg T n M G0 c0 O N off voff ph cx cb F G i ls cs w s nw ns np (a0 ++ 1 :: 0 :: c) t ((8, 0, 0, 0) :: W) L P Q H K i' ls' cs' w' s' nw' ns' np' (0 :: c) ∧ rts i w s nw ns i' (w' + 2) (s' + 1) nw' ns' ∧ H 0 61 = 4 ∧ H 0 62 + 1 = w' ∧ w < w' ∧ s < s' ∧ K 56 7 = 4294967294 ∧ cal cb N F G w s nw ns np (a0 ++ 1 :: 0 :: c) H K ls' cs' w' s' nw' ns' np' 4294967295 (2 :: c) ∧ cal cb N F G w s nw ns np (a0 ++ 1 :: 0 :: c) H K ls' cs' w' s' nw' ns' np' 0 c) ∨ ∃ e p, rba nn F (dk_246 F) e p ∧ sx T n G0 c0 O e p N (zz D + 46) K) := by
  obtain ⟨m1, m2, m3, m4, m5, m6, m7, m8, m9, m10, m11, m12⟩ := hB
  have hiM := hr.1.2.2.1
  have hM1 := hM.1
  have h57 : G 57 4 = tk_ty T n (tk_pos T n i) := hc.1.2.1.1
  have hln : G 57 6 = 1 + lc T (tk_pos T n i) := hc.1.2.1.2.2.1
  have h62 := hb.2.2.2.2.2.1
  have hN := hb.1.1.1
  have hz : 6310 ≤ zz D ∧ zz D < 9900 ∧ zz (D + 1) + 110 ≤ zz D := by unfold zz; omega
  have hhc : hg c ≤ 2 * i + 40 := by
    rw [hg_app, hg_1, hg_0] at m7
    omega
  have h46 : F 0 46 = W.length := hr.2.2.1.1
  obtain ⟨k, rfl⟩ : ∃ m, k = m + 1 := ⟨k - 1, by omega⟩
  -- the reference's two waits
  have hr2 : ry T n M i ls t w nw np ((13, 1 + lc T (tk_pos T n i), 0, 0) :: (8, 0, 0, 0) :: W) L P (pm_la (pm_la F 8 0 0 0) 13 (1 + lc T (tk_pos T n i)) 0 0) := ry_la (ry_la hr)
  have b2 : bz N off voff ph cx (a0 ++ 1 :: 0 :: c) np (pm_la (pm_la F 8 0 0 0) 13 (1 + lc T (tk_pos T n i)) 0 0) ls G cs := bz_la (bz_la hb)
  have f2 : rm_fr F (pm_la (pm_la F 8 0 0 0) 13 (1 + lc T (tk_pos T n i)) 0 0) := rm_fr_la (rm_fr_la (rm_fr_refl _))
  have x2 : ∀ d j, 12 ≤ d ∧ d ≤ 24 → pm_la (pm_la F 8 0 0 0) 13 (1 + lc T (tk_pos T n i)) 0 0 d j = F d j := fun d j h => by
    rw [pm_la_ne (by omega) (by omega), pm_la_ne (by omega) (by omega)]
  have hd : dk_246 F = (dk_36 (pm_la (pm_la F 8 0 0 0) 13 (1 + lc T (tk_pos T n i)) 0 0) 123).bind fun y13 => if y13.1 = 0 then od_g (y13.2 0 25 < 1502) <| if (y13.2 9 (y13.2 0 25)) = 3 then od_g (y13.2 0 25 < 1502) <| od_let (18446744073709551616 + y13.2 11 (y13.2 0 25)) fun y52 => dk_237 y13.2 5 (ev_oL2i y52) else (dk_31 y13.2 12 0 0 0).bind fun y20 => (dk_212 y20.2).bind fun y24 => if y24.1 = 0 then some (0, y24.2) else (dk_36 y24.2 41).bind fun y29 => if y29.1 = 0 then (dk_217 y29.2).bind fun y34 => if y34.1 = 0 then dk_211 y34.2 else (dk_31 y34.2 14 0 0 0).bind fun y39 => (dk_31 y39.2 3 0 0 0).bind fun y43 => some (1, y43.2) else some (1, y29.2) else dk_248 y13.2 := by
    unfold dk_246
    rw [pm_line hM hr.1, od_bS]
    dsimp only
    rw [dkS_31 (by omega), od_bS]
    dsimp only
    rw [dkS_31 (by rw [pm_la_at.2.2.2.2]; omega), od_bS]
    dsimp only
    simp only [od_bI]
  rw [pm_isSign hM hr2.1 (by decide), od_bS] at hd
  dsimp only at hd
  rw [if_ck] at hd
  generalize pm_la (pm_la F 8 0 0 0) 13 (1 + lc T (tk_pos T n i)) 0 0 = F2 at *
  have e0 : eg T n M G0 c0 O N off voff ph cx cb F G i ls cs w s nw ns np (a0 ++ 1 :: 0 :: c) t ((13, 1 + lc T (tk_pos T n i), 0, 0) :: (8, 0, 0, 0) :: W) L P Q F2 G i ls cs w s nw ns np (a0 ++ 1 :: 0 :: c) := eg_n hr2 hc b2 (fun d j q => x2 d j (by omega)) (qf_refl _) (st_pre_refl _) (Nat.le_refl _) m5
  -- the call, once what is given stands
  have fini : ∀ (i1 w1 s1 nw1 ns1 np1 : Nat) (ls1 cs1 : List (List Nat)) (H1 K1 : wq_F) (a : List Nat), rgo nn F (dk_246 F) H1 → eg T n M G0 c0 O N off voff ph cx cb F G i ls cs w s nw ns np (a0 ++ 1 :: 0 :: c) t ((13, 1 + lc T (tk_pos T n i), 0, 0) :: (8, 0, 0, 0) :: W) L P Q H1 K1 i1 ls1 cs1 w1 s1 nw1 ns1 np1 (a ++ 1 :: 0 :: c) → row_a a → rts i w s nw ns i1 (w1 + 3) (s1 + 2) nw1 ns1 → wok (dk_139_93 (dk_R nn k) nn K1 (hg c) (G 57 6)) (fun _ K => (∃ i' w' s' nw' ns' np' ls' cs' H, rgo nn F (dk_246 F) H ∧ eg T n M G0 c0 O N off voff ph cx cb F G i ls cs w s nw ns np (a0 ++ 1 :: 0 :: c) t ((8, 0, 0, 0) :: W) L P Q H K i' ls' cs' w' s' nw' ns' np' (0 :: c) ∧ rts i w s nw ns i' (w' + 2) (s' + 1) nw' ns' ∧ H 0 61 = 4 ∧ H 0 62 + 1 = w' ∧ w < w' ∧ s < s' ∧ K 56 7 = 4294967294 ∧ cal cb N F G w s nw ns np (a0 ++ 1 :: 0 :: c) H K ls' cs' w' s' nw' ns' np' 4294967295 (2 :: c) ∧ cal cb N F G w s nw ns np (a0 ++ 1 :: 0 :: c) H K ls' cs' w' s' nw' ns' np' 0 c) ∨ ∃ e p, rba nn F (dk_246 F) e p ∧ sx T n G0 c0 O e p N (zz D + 46) K) := fun i1 w1 s1 nw1 ns1 np1 ls1 cs1 H1 K1 a g1 e1 ha rt => by
    obtain ⟨u1, u2, u3, u4, u5⟩ := rt
    have hi1 := e1.1.1.2.2.1
    rw [hln]
    refine wok_m (call_step (nn := nn) (cb := cb) e1.1 e1.2.1 e1.2.2.1 ha (by omega) (by omega) (by show W.length + 1 < 3990; omega) (by omega) e1.2.2.2.2.2.2) fun r K hK => ?_
    obtain ⟨H, g2, e2, p1, p2, p3, p4, p5⟩ := hK
    exact Or.inl ⟨i1, w1 + 1, s1 + 1, nw1, ns1, np1, ls1, cs1, H, rgo_t g1 g2, eg_t e1 e2 h62, ⟨by omega, by omega, by omega, by omega, by omega⟩, p1, by omega, by have := e1.2.2.2.1.1; omega, by have := e1.2.2.2.1.1; omega, p3, cal_t e1 p4 (st_pre_refl _) (st_pre_refl _) h62, cal_t e1 p5 (st_pre_refl _) (st_pre_refl _) h62⟩
  rw [dk_Re_139]
  unfold dk_139
  by_cases q1 : tk_k T n i = 5 ∧ tk_V T n (tk_pos T n i) = 123
  · rw [if_pos q1] at hd
    have t57 : G 57 4 = 53 := h57.trans ((tk_ty_sign (c := 123) (by decide)).mpr q1)
    refine wok_f (by omega) (wok_t t57 ?_)
    refine wok_b (hT k i t w s nw ns np N off voff ph cx (a0 ++ 1 :: 0 :: c) cb _ L P Q ls cs F2 G (by omega) htD q1 hr2 hc b2 ⟨m1, m2, m3, m4, m5, m6, m7, by show W.length + 2 ≤ _; omega, m9, m10, m11, m12⟩ (by show W.length + 2 ≤ _; omega)) fun r K h => ?_
    dsimp only
    rcases h with ⟨i1, w1, s1, nw1, ns1, np1, ls1, cs1, H1, g1, e1, ⟨u1, u2, u3, u4, u5⟩, _⟩ | ⟨e, p, hb2, hx⟩
    · rw [← hd] at g1
      exact fini _ _ _ _ _ _ _ _ _ _ (0 :: a0) (rgo_fr g1 f2) (eg_t e0 e1 h62) (Or.inl (fun e he => by
        rcases List.mem_cons.mp he with z | z
        · exact z
        · exact ha0 e z)) ⟨by omega, by omega, by omega, by omega, by omega⟩
    · rw [← hd] at hb2
      exact wok_m (sx_93 hx (by omega)) fun r K h => Or.inr ⟨e, p, rba_fr hb2 f2, sx_le h (by omega)⟩
  rw [if_neg q1, od_g1 (pm_b hM hr2.1)] at hd
  have hkd := pm_kind hr2.1
  by_cases q2 : tk_k T n i = 3
  · rw [if_pos (hkd.trans q2), od_g1 (pm_b hM hr2.1), od_letS] at hd
    have t57 : G 57 4 = 4 := h57.trans (tk_ty_kind.2.2.1.mpr q2)
    refine wok_t t57 ?_
    obtain ⟨sn, v1, v2, v3⟩ := hc.1.2.2.2.2.1 (Or.inr q2)
    have vr := (hr2.1.2.2.2.2.2.1 i (by omega)).2.2.2 (Or.inr q2)
    have hsl : cs.length ≤ c0.length + i + 1 := hc.1.2.2.2.2.2.1.2.2.1
    rw [v1, tb_l2i (by omega)]
    refine wok_2 (f := fun y => dk_77 nn y.2) (g := fun K => dk_139_93 (dk_R nn k) nn K (hg c) (G 57 6)) (o_const (cb := cb) (c := a0 ++ 1 :: 0 :: c) (A := F2) (B := G) (nw0 := nw) (ns0 := ns) (o := 5) (a := ev_oL2i (18446744073709551616 + F2 11 (F2 0 25))) hM hr2 hc b2 hn hc0 hO (by omega) (by omega) (by omega) (by omega) (by omega) (by omega) m5 (by omega) (by omega) (fun d j q => rfl) (rm_fr_refl _) (fun d j q => rfl) (fun H J nm x1 x2 x3 x4 _ _ hnm => ⟨4, x1, x3, by
      rw [x2, x4, hr2.1.2.1]
      have lsl : F2 11 i < 4294967296 := by
        have := vr.1
        have := lsb_len hb.2.2.2.2.2.2.2 hr2.1.2.2.2.2.2.2
        omega
      rw [tb_l2i lsl]
      exact hnm _ _ vr.1 v2 (vr.2.1.trans v3.symm), rfl⟩)) fun r K h => ?_
    rcases h with ⟨ms, H1, g1, e1, _⟩ | ⟨e, p, hb2, hx⟩
    · rw [← hd] at g1
      refine fini (i + 1) (w + 1) (s + 1) nw ns np ls ms H1 K (0 :: a0) (rgo_fr g1 f2) (eg_t e0 e1 h62) (Or.inl (fun e he => by
        rcases List.mem_cons.mp he with z | z
        · exact z
        · exact ha0 e z)) ⟨by omega, by omega, by omega, by omega, by omega⟩
    · rw [← hd] at hb2
      exact wok_m (sx_93 hx (by omega)) fun r K h => Or.inr ⟨e, p, rba_fr hb2 f2, sx_le h (by omega)⟩
  have q3 : tk_k T n i = 5 ∧ tk_V T n (tk_pos T n i) = 40 := by
    rcases hgv with z | ⟨z1, z2 | z2⟩
    · exact absurd z q2
    · exact ⟨z1, z2⟩
    · exact absurd ⟨z1, z2⟩ q1
  have t57 : G 57 4 = 51 := h57.trans ((tk_ty_sign (c := 40) (by decide)).mpr q3)
  rw [if_neg (fun z => q2 (hkd.symm.trans z)), dkS_31 (by rw [hr2.2.2.1.1]; show W.length + 2 < 4000; omega), od_bS] at hd
  dsimp only at hd
  have hr3 : ry T n M i ls t w nw np ((12, 0, 0, 0) :: (13, 1 + lc T (tk_pos T n i), 0, 0) :: (8, 0, 0, 0) :: W) L P (pm_la F2 12 0 0 0) := ry_la hr2
  have b3 : bz N off voff ph cx (a0 ++ 1 :: 0 :: c) np (pm_la F2 12 0 0 0) ls G cs := bz_la b2
  have f3 : rm_fr F (pm_la F2 12 0 0 0) := rm_fr_la f2
  have x3 : ∀ d j, 12 ≤ d ∧ d ≤ 24 → pm_la F2 12 0 0 0 d j = F d j := fun d j h => by
    rw [pm_la_ne (by omega) (by omega), x2 d j h]
  generalize pm_la F2 12 0 0 0 = F3 at *
  have tl : ∀ (e p B : Nat) (K : wq_F), sx T n G0 c0 O e p N B K → B + 1 ≤ zz D + 46 → rba nn F (dk_246 F) e p → wok ((dk_110 nn K 52).bind fun y => dk_139_93 (dk_R nn k) nn y.2 (hg c) (G 57 6)) (fun _ K => (∃ i' w' s' nw' ns' np' ls' cs' H, rgo nn F (dk_246 F) H ∧ eg T n M G0 c0 O N off voff ph cx cb F G i ls cs w s nw ns np (a0 ++ 1 :: 0 :: c) t ((8, 0, 0, 0) :: W) L P Q H K i' ls' cs' w' s' nw' ns' np' (0 :: c) ∧ rts i w s nw ns i' (w' + 2) (s' + 1) nw' ns' ∧ H 0 61 = 4 ∧ H 0 62 + 1 = w' ∧ w < w' ∧ s < s' ∧ K 56 7 = 4294967294 ∧ cal cb N F G w s nw ns np (a0 ++ 1 :: 0 :: c) H K ls' cs' w' s' nw' ns' np' 4294967295 (2 :: c) ∧ cal cb N F G w s nw ns np (a0 ++ 1 :: 0 :: c) H K ls' cs' w' s' nw' ns' np' 0 c) ∨ ∃ e p, rba nn F (dk_246 F) e p ∧ sx T n G0 c0 O e p N (zz D + 46) K) := fun e p B K h hB ho => by
    refine wok_b (sx_110 h (by decide)) fun r K h => ?_
    exact wok_m (sx_93 h (by omega)) fun r K h => Or.inr ⟨e, p, ho, sx_le h (by omega)⟩
  -- the row is over
  have clos : ∀ (i1 w1 s1 nw1 ns1 np1 : Nat) (ls1 cs1 : List (List Nat)) (H1 K1 : wq_F) (a : List Nat), rgo nn F (dk_246 F) H1 → eg T n M G0 c0 O N off voff ph cx cb F G i ls cs w s nw ns np (a0 ++ 1 :: 0 :: c) t ((12, 0, 0, 0) :: (13, 1 + lc T (tk_pos T n i), 0, 0) :: (8, 0, 0, 0) :: W) L P Q H1 K1 i1 ls1 cs1 w1 s1 nw1 ns1 np1 (a ++ 1 :: 0 :: c) → row_a a → i < i1 → rts i w s nw ns (i1 + 1) (w1 + 3) (s1 + 2) nw1 ns1 → wok ((dk_110 nn K1 52).bind fun y => dk_139_93 (dk_R nn k) nn y.2 (hg c) (G 57 6)) (fun _ K => (∃ i' w' s' nw' ns' np' ls' cs' H, rgo nn F (dk_246 F) H ∧ eg T n M G0 c0 O N off voff ph cx cb F G i ls cs w s nw ns np (a0 ++ 1 :: 0 :: c) t ((8, 0, 0, 0) :: W) L P Q H K i' ls' cs' w' s' nw' ns' np' (0 :: c) ∧ rts i w s nw ns i' (w' + 2) (s' + 1) nw' ns' ∧ H 0 61 = 4 ∧ H 0 62 + 1 = w' ∧ w < w' ∧ s < s' ∧ K 56 7 = 4294967294 ∧ cal cb N F G w s nw ns np (a0 ++ 1 :: 0 :: c) H K ls' cs' w' s' nw' ns' np' 4294967295 (2 :: c) ∧ cal cb N F G w s nw ns np (a0 ++ 1 :: 0 :: c) H K ls' cs' w' s' nw' ns' np' 0 c) ∨ ∃ e p, rba nn F (dk_246 F) e p ∧ sx T n G0 c0 O e p N (zz D + 46) K) := fun i1 w1 s1 nw1 ns1 np1 ls1 cs1 H1 K1 a g1 e1 ha hi rt => by
    have rt0 := rt
    obtain ⟨u1, u2, u3, u4, u5⟩ := rt
    have hi1 := e1.1.1.2.2.1
    have hp := ry_pop e1.1
    have h0 : ∀ d j, ¬ d = 0 → wq_up H1 0 46 ((13, 1 + lc T (tk_pos T n i), 0, 0) :: (8, 0, 0, 0) :: W).length d j = H1 d j := fun d j q => wq_up_cell q
    have hb1 := bz_fu (d := 0) (j := 46) (v := ((13, 1 + lc T (tk_pos T n i), 0, 0) :: (8, 0, 0, 0) :: W).length) e1.2.2.1 (by omega)
    have hf1 : rm_fr H1 (wq_up H1 0 46 ((13, 1 + lc T (tk_pos T n i), 0, 0) :: (8, 0, 0, 0) :: W).length) := rm_fr_up (rm_fr_refl _) (by decide) (by decide)
    have h33 : dk_32 nn (wq_up H1 0 46 ((13, 1 + lc T (tk_pos T n i), 0, 0) :: (8, 0, 0, 0) :: W).length) (12, 0, 0, 0).1 (12, 0, 0, 0).2.1 (12, 0, 0, 0).2.2.1 (12, 0, 0, 0).2.2.2 = dk_213 (wq_up H1 0 46 ((13, 1 + lc T (tk_pos T n i), 0, 0) :: (8, 0, 0, 0) :: W).length) 41 := by
      show dk_32 nn (wq_up H1 0 46 ((13, 1 + lc T (tk_pos T n i), 0, 0) :: (8, 0, 0, 0) :: W).length) 12 0 0 0 = _
      rw [dk32_12, od_bI]
    have hg2 := fun H => ry_go (nn := nn) (H := H) e1.1 (by show W.length + 2 < 4000; omega)
    have hb2 := fun k p => ry_ba (nn := nn) (k := k) (p := p) e1.1 (by show W.length + 2 < 4000; omega)
    generalize wq_up H1 0 46 ((13, 1 + lc T (tk_pos T n i), 0, 0) :: (8, 0, 0, 0) :: W).length = H2 at *
    refine wok_b (bt_sg (x := 41) (B := 6200) hM hp e1.2.1 hb1 (by decide) (by decide) (by omega) hc0 hO (by omega) (by omega) e1.2.2.2.2.2.2 (by omega)) fun r K2 h2 => ?_
    dsimp only
    rcases h2 with ⟨iM, e2, ms, c2, b2, f2, p2⟩ | ⟨e, e2, hx⟩
    · have hr5 := ry_nx hp iM
      have g2 := hg2 _ (rgo_i (h33.trans e2) (by decide) hr5.1.1 (rm_fr_up hf1 (by decide) (by decide)))
      have e5 := eg_n (cb := cb) hr5 c2 (bz_fu (d := 0) (j := 25) (v := i1 + 1) b2 (by omega)) (fun d j q => (wq_up_cell (by omega)).trans (h0 d j (by omega))) (qf_fr f2) p2 (Nat.le_succ _) e1.2.2.2.2.2.2
      exact fini _ _ _ _ _ _ _ _ _ _ a (rgo_t g1 g2) (eg_t e1 e5 h62) ha rt0
    · have ho := hb2 _ _ (rba_f (h33.trans e2) hf1 (by rw [hp.2.1.2.1]; omega))
      exact wok_m (sx_93 hx (by omega)) fun r K h => Or.inr ⟨e, _, rgo_o g1 ho, sx_le h (by omega)⟩
  refine wok_f (by omega) (wok_f (by omega) ?_)
  refine wok_b (bt_110 (x := 51) (B := 6200) hM hr3 hc b3 t57 (by omega) (by omega) hn hc0 hO (by omega) (by omega) m5 (by omega)) fun r1 K1 h2 => ?_
  dsimp only
  rw [Nat.mod_eq_of_lt (show D + 1 < 4294967296 by omega)]
  rcases h2 with ⟨iM, e2, ms, c1, b1, f1, p1⟩ | ⟨e2, hx⟩
  · rw [e2, od_bS] at hd
    dsimp only at hd
    have hr4 := ry_nx hr3 iM
    have b4 : bz N off voff ph cx (a0 ++ 1 :: 0 :: c) np (wq_up F3 0 25 (i + 1)) ls K1 ms := bz_fu b1 (by omega)
    have f4 : rm_fr F (wq_up F3 0 25 (i + 1)) := rm_fr_up f3 (by decide) (by decide)
    have x4 : ∀ d j, 12 ≤ d ∧ d ≤ 24 → wq_up F3 0 25 (i + 1) d j = F d j := fun d j h => (wq_up_cell (by omega)).trans (x3 d j h)
    rw [if_neg (by decide), pm_isSign hM hr4.1 (by decide), od_bS] at hd
    dsimp only at hd
    rw [if_ck] at hd
    generalize wq_up F3 0 25 (i + 1) = F4 at *
    have k57 : K1 57 4 = tk_ty T n (tk_pos T n (i + 1)) := c1.1.2.1.1
    by_cases q4 : tk_k T n (i + 1) = 5 ∧ tk_V T n (tk_pos T n (i + 1)) = 41
    · rw [if_pos q4] at hd
      refine wok_t (k57.trans ((tk_ty_sign (c := 41) (by decide)).mpr q4)) ?_
      exact clos (i + 1) w s nw ns np ls ms F4 K1 a0 (rgo_i hd (by decide) hr4.1.1 f4) (eg_n hr4 c1 b4 (fun d j q => x4 d j (by omega)) (qf_fr f1) p1 (Nat.le_succ _) m5) (Or.inl ha0) (by omega) ⟨by omega, by omega, by omega, by omega, by omega⟩
    · rw [if_neg q4, dkS_217 hM hr4.1, od_bS] at hd
      dsimp only at hd
      refine wok_f (fun z => q4 ((tk_ty_sign (c := 41) (by decide)).mp (k57.symm.trans z))) ?_
      by_cases hex : tb_ex (tk_ty T n (tk_pos T n (i + 1))) = 0
      · rw [if_pos hex, pm_wrong hM hr4.1] at hd
        refine wok_b (cR_no (B := 6200) hM hr4 c1 b4 (by omega) hn hex (by omega) (by omega) m5 (by omega)) fun r K h => ?_
        exact tl _ _ _ _ h (by omega) (rba_f hd f4 (by rw [hr4.2.1.2.1]; omega))
      · rw [if_neg hex, dkS_31 (by rw [hr4.2.2.1.1]; show W.length + 3 < 4000; omega), od_bS] at hd
        dsimp only at hd
        rw [dkS_31 (by rw [pm_la_at.2.2.2.2, hr4.2.2.1.1]; show W.length + 4 < 4000; omega), od_bS] at hd
        have hr6 : ry T n M (i + 1) ls t w nw np ((3, 0, 0, 0) :: (14, 0, 0, 0) :: (12, 0, 0, 0) :: (13, 1 + lc T (tk_pos T n i), 0, 0) :: (8, 0, 0, 0) :: W) L P (pm_la (pm_la F4 14 0 0 0) 3 0 0 0) := ry_la (ry_la hr4)
        have b6 : bz N off voff ph cx (a0 ++ 1 :: 0 :: c) np (pm_la (pm_la F4 14 0 0 0) 3 0 0 0) ls K1 ms := bz_la (bz_la b4)
        have e6 : eg T n M G0 c0 O N off voff ph cx cb F G i ls cs w s nw ns np (a0 ++ 1 :: 0 :: c) t _ L P Q (pm_la (pm_la F4 14 0 0 0) 3 0 0 0) K1 (i + 1) ls ms w s nw ns np (a0 ++ 1 :: 0 :: c) := eg_n hr6 c1 b6 (fun d j q => by rw [pm_la_ne (by omega) (by omega), pm_la_ne (by omega) (by omega), x4 d j (by omega)]) (qf_fr f1) p1 (Nat.le_succ _) m5
        have g6 : rgo nn F (dk_246 F) (pm_la (pm_la F4 14 0 0 0) 3 0 0 0) := rgo_i hd (by decide) hr6.1.1 (rm_fr_la (rm_fr_la f4))
        refine wok_b (R_ok (cb := cb) hM hE (by omega) (by omega) (by omega) hn hc0 hO hr6 c1 b6 ⟨by omega, by omega, by omega, by omega, m5, m6, by omega, by show W.length + 4 ≤ _; omega, m9, m10, m11, m12⟩) fun r5 K5 h5 => ?_
        dsimp only
        rcases h5 with ⟨i1, w1, s1, nw1, ns1, np1, ls1, cs1, H1, m, c', g1, e1, ⟨u1, u2, u3, u4, u5⟩, v1, v2, v3⟩ | ⟨e, p, ho, hx⟩
        · obtain ⟨a, ea, ra⟩ : ∃ a, c' = a ++ 1 :: 0 :: c ∧ row_a a := by
            rcases v3 with ⟨_, z⟩ | ⟨_, z⟩
            · exact ⟨List.replicate m 0 ++ a0, by rw [z, List.append_assoc], (row_a_0 ha0 m).1⟩
            · exact ⟨2 :: (List.replicate (m - 1) 0 ++ a0), by rw [z, List.cons_append, List.append_assoc], (row_a_0 ha0 (m - 1)).2⟩
          rw [ea] at e1
          exact clos _ _ _ _ _ _ _ _ _ _ a (rgo_t g6 g1) (eg_t e6 e1 h62) ra (by omega) ⟨by omega, by omega, by omega, by omega, by omega⟩
        · exact tl _ _ _ _ hx (by omega) (rgo_o g6 ho)
  · rw [e2, od_bS] at hd
    have ho : rba nn F (dk_246 F) 3 (tk_pos T n i) := rba_f (hd.trans (if_pos rfl)) f3 (by rw [hr3.2.1.2.1]; omega)
    refine wok_f (sx_ne hx (by decide)) ?_
    refine wok_b (sx_144 hx (by omega) hn) fun r K h => ?_
    exact tl _ _ _ _ h (by omega) ho
end
