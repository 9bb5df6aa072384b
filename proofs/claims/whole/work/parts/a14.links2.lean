/-! ===== a14: links of a chain: what is given, and : (wip/whole2/lawa14.py) ===== -/
section
variable {nn : Nat} {T : Nat → Nat} {n M O : Nat} {G0 : wq_F} {c0 : List (List Nat)} {i t w s nw ns np N : Nat} {off voff ph : Nat → Nat} {cx : Nat → List Nat} {c cb : List Nat} {W : List (Nat × Nat × Nat × Nat)} {L : List (Nat × Nat)} {P Q : List (Nat × Nat × Nat)} {ls cs : List (List Nat)} {F G : wq_F}
variable {i0 w0 s0 nw0 ns0 np0 : Nat} {ls0 cs0 : List (List Nat)} {A B : wq_F} {c' : List Nat}

theorem sx_139 {k e p B' h d : Nat} (hx : sx T n G0 c0 O e p N B' G) (hk : 3 ≤ k) (hn : 10000 < nn) (hB : B' < 9990) : wok (dk_R nn k 139 [h, d] G) (fun _ K => sx T n G0 c0 O e p N (B' + 1) K) := by
  obtain ⟨k, rfl⟩ : ∃ m, k = m + 1 := ⟨k - 1, by omega⟩
  rw [dk_Re_139]
  unfold dk_139
  refine wok_f (sx_ne hx (by decide)) (wok_f (sx_ne hx (by decide)) ?_)
  refine wok_b (sx_110 hx (by decide)) fun r K h => ?_
  dsimp only
  refine wok_f (sx_ne h (by decide)) ?_
  refine wok_b (sx_144 h (by omega) hn) fun r K h => ?_
  dsimp only
  refine wok_b (sx_110 h (by decide)) fun r K h => ?_
  dsimp only
  exact sx_93 h (by omega)
/-- nothing is given: the class alone -/
theorem g_no {k B' hh d : Nat} (hM : tk_M T n M) (hr : ry T n M i ls t w nw np W L P F) (hc : cy T n G0 c0 O i cs s ns np N Q G) (hb : bz N off voff ph cx c np F ls G cs) (hk : 3 ≤ k) (hn : 10000 < nn) (hg3 : ¬ (tk_k T n i = 3 ∨ (tk_k T n i = 5 ∧ (tk_V T n (tk_pos T n i) = 40 ∨ tk_V T n (tk_pos T n i) = 123)))) (hs : s ≤ B') (hB : B' < 9990) (hns : ns ≤ 10000) (hnf : np ≤ 50) (hQ : Q.length ≤ 440) : wok (dk_R nn k 139 [hh, d] G) (fun _ K => sx T n G0 c0 O (tk_wr T n i) (tk_pos T n i) N (B' + 1) K) := by
  have hM1 := hM.1
  have hiM := hr.1.2.2.1
  have h57 : G 57 4 = tk_ty T n (tk_pos T n i) := hc.1.2.1.1
  obtain ⟨k, rfl⟩ : ∃ m, k = m + 1 := ⟨k - 1, by omega⟩
  rw [dk_Re_139]
  unfold dk_139
  refine wok_f (fun z => hg3 (Or.inl (tk_ty_kind.2.2.1.mp (h57.symm.trans z)))) ?_
  refine wok_f (fun z => hg3 (Or.inr ?_)) ?_
  · obtain ⟨y1, y2⟩ := (tk_ty_sign (c := 123) (by decide)).mp (h57.symm.trans z)
    exact ⟨y1, Or.inr y2⟩
  have w110 : wok (dk_110 nn G 51) (fun _ K => sx T n G0 c0 O (tk_wr T n i) (tk_pos T n i) N B' K) := by
    unfold dk_110
    refine wok_f (fun z => hg3 (Or.inr ?_)) ?_
    · obtain ⟨y1, y2⟩ := (tk_ty_sign (c := 40) (by decide)).mp (h57.symm.trans z)
      exact ⟨y1, Or.inl y2⟩
    · exact wok_b (bt_wr (B := B') hM hr hc hb hs hns hnf hQ).2 fun r K h => wok_r h
  refine wok_b w110 fun r K h => ?_
  dsimp only
  refine wok_f (sx_ne h (by decide)) ?_
  refine wok_b (sx_144 h (by omega) hn) fun r K h => ?_
  dsimp only
  refine wok_b (sx_110 h (by decide)) fun r K h => ?_
  dsimp only
  exact sx_93 h (by omega)
/-- does what is given begin here -/
theorem rG (hM : tk_M T n M) (hr : ry T n M i ls t w nw np W L P F) : dk_244 F = some (if tk_k T n i = 3 ∨ (tk_k T n i = 5 ∧ (tk_V T n (tk_pos T n i) = 40 ∨ tk_V T n (tk_pos T n i) = 123)) then 1 else 0, F) := by
  unfold dk_244
  rw [pm_isSign hM hr.1 (by decide), od_bS]
  dsimp only
  rw [if_ck]
  by_cases q1 : tk_k T n i = 5 ∧ tk_V T n (tk_pos T n i) = 40
  · rw [if_pos q1, if_pos (Or.inr ⟨q1.1, Or.inl q1.2⟩)]
  rw [if_neg q1, pm_isSign hM hr.1 (by decide), od_bS]
  dsimp only
  rw [if_ck]
  by_cases q2 : tk_k T n i = 5 ∧ tk_V T n (tk_pos T n i) = 123
  · rw [if_pos q2, if_pos (Or.inr ⟨q2.1, Or.inr q2.2⟩)]
  rw [if_neg q2, od_g1 (pm_b hM hr.1)]
  have hkd := pm_kind hr.1
  by_cases q3 : tk_k T n i = 3
  · rw [if_pos (hkd.trans q3), if_pos (Or.inl q3)]
  · rw [if_neg (fun z => q3 (hkd.symm.trans z)), if_neg (fun z => by
      rcases z with z | ⟨z1, z2 | z2⟩
      · exact q3 z
      · exact q1 ⟨z1, z2⟩
      · exact q2 ⟨z1, z2⟩)]
/-- the call behind a link's beginning -/
theorem link_end {D k : Nat} {a0 : List Nat} {F6 K7 : wq_F} {i6 w6 s6 : Nat} {cs6 : List (List Nat)} {mm : Option (Nat × wq_F)} (hM : tk_M T n M) (h : eg T n M G0 c0 O N off voff ph cx cb A B i0 ls0 cs0 w0 s0 nw0 ns0 np0 c t ((8, 0, 0, 0) :: W) L P Q F G i ls cs w s nw ns np c') (ht : tlr cb N A B w0 s0 nw0 ns0 np0 c F G ls cs w s nw ns np c') (h62 : ∀ l, l < N → B 62 l < np0) (hn : 10000 < nn) (hc0 : c0.length ≤ 1400) (hO : O ≤ 20000) (hB : bnd i (w + 2) (s + 1) nw ns np t (hg c + 2) ((8, 0, 0, 0) :: W) L P Q N) (hW : W.length ≤ 20 * t + 6) (htD : t = D) (hD : D ≤ 20) (hE : E_ok nn T n M G0 c0 O (D + 1)) (hT : Tb_ok nn T n M G0 c0 O D) (hk : 20 * (22 - D) + 9 ≤ k)
    (e6 : eg T n M G0 c0 O N off voff ph cx cb A B i0 ls0 cs0 w0 s0 nw0 ns0 np0 c t W L P Q F6 K7 i6 ls cs6 w6 s6 nw ns np (a0 ++ 1 :: 0 :: c)) (ff : rm_fr F F6) (hgo : ∀ H, rgo nn F mm H → rm_to nn F H ∧ rm_fr F H) (hba : ∀ k p, rba nn F mm k p → rm_out nn k p F) (ha0 : ∀ e ∈ a0, e = 0) (hm : mm = dk_246 F6) (hi : i ≤ i6 ∧ w6 + 6 * i ≤ w + 2 + 6 * i6 ∧ s6 + 4 * i ≤ s + 1 + 4 * i6 ∧ w0 ≤ w6 ∧ s0 ≤ s6) (hh : hg (a0 ++ 1 :: 0 :: c) ≤ 2 * i6 + 40)
    (hgv : tk_k T n i6 = 3 ∨ (tk_k T n i6 = 5 ∧ (tk_V T n (tk_pos T n i6) = 40 ∨ tk_V T n (tk_pos T n i6) = 123))) : wok ((dk_R nn k 139 [hg c, D] K7).bind fun y121 => some (1, y121.2)) (fun r K => (∃ i' w' s' nw' ns' np' ls' cs' H c'', r = 1 ∧ (rm_to nn F H ∧ rm_fr F H) ∧ eg T n M G0 c0 O N off voff ph cx cb A B i0 ls0 cs0 w0 s0 nw0 ns0 np0 c t ((8, 0, 0, 0) :: W) L P Q H K i' ls' cs' w' s' nw' ns' np' c'' ∧ tlr cb N A B w0 s0 nw0 ns0 np0 c H K ls' cs' w' s' nw' ns' np' c'' ∧ rts i w s nw ns i' w' s' nw' ns') ∨ (∃ e p, r = 1 ∧ rm_out nn e p F ∧ sx T n G0 c0 O e p N (zz t + 50) K)) := by
  obtain ⟨m1, m2, m3, m4, m5, m6, m7, m8, m9, m10, m11, m12⟩ := hB
  obtain ⟨i1, i2, i3, i4, i5⟩ := hi
  have m8 : W.length + 1 ≤ 20 * t + 20 := m8
  refine wok_b (given_ok (cb := cb) hM hE hT hk htD hD e6.1 e6.2.1 e6.2.2.1 ha0 hn hc0 hO ⟨by omega, by omega, by omega, by omega, m5, m6, hh, by omega, m9, m10, m11, m12⟩ (by omega) hgv) fun r K hK => wok_r ?_
  rcases hK with ⟨i', w', s', nw', ns', np', ls', cs', H, g1, e1, ⟨u1, u2, u3, u4, u5⟩, p1, p2, p3, p4, p5, p6, p7⟩ | ⟨e, p, ho, hx⟩
  · refine Or.inl ⟨i', w', s', nw', ns', np', ls', cs', H, 0 :: c, rfl, hgo _ (by rw [hm]; exact rgo_fr g1 ff), eg_t e6 e1 h62, Or.inr (Or.inr (Or.inr (Or.inr (Or.inl ⟨p1, p5, rfl, p2, by omega, by omega, ?_, ?_⟩)))), ⟨by omega, by omega, by omega, by omega, by omega⟩⟩
    · exact cal_t e6 p6 e1.2.2.2.2.1.1.1 e1.2.2.2.2.1.2.1 h62
    · exact cal_t e6 p7 e1.2.2.2.2.1.1.1 e1.2.2.2.2.1.2.1 h62
  · exact Or.inr ⟨e, p, rfl, hba _ _ (by rw [hm]; exact rba_fr ho ff), sx_le hx (by rw [htD]; omega)⟩
/-- what is given, at once -/
theorem link_gv {D k : Nat} (hM : tk_M T n M) (h : eg T n M G0 c0 O N off voff ph cx cb A B i0 ls0 cs0 w0 s0 nw0 ns0 np0 c t ((8, 0, 0, 0) :: W) L P Q F G i ls cs w s nw ns np c') (ht : tlr cb N A B w0 s0 nw0 ns0 np0 c F G ls cs w s nw ns np c') (h62 : ∀ l, l < N → B 62 l < np0) (hn : 10000 < nn) (hc0 : c0.length ≤ 1400) (hO : O ≤ 20000) (hB : bnd i (w + 2) (s + 1) nw ns np t (hg c + 2) ((8, 0, 0, 0) :: W) L P Q N) (hW : W.length ≤ 20 * t + 6) (htD : t = D) (hD : D ≤ 20) (hE : E_ok nn T n M G0 c0 O (D + 1)) (hT : Tb_ok nn T n M G0 c0 O D) (hk : 20 * (22 - D) + 9 ≤ k) (hgv : tk_k T n i = 3 ∨ (tk_k T n i = 5 ∧ (tk_V T n (tk_pos T n i) = 40 ∨ tk_V T n (tk_pos T n i) = 123))) :
    wok ((dk_136 G).bind fun y86 => (dk_84 y86.2).bind fun y114 => od_let ((y114.1 + (4294967296 - 1)) % 4294967296) fun y118 => (dk_R nn k 139 [y118, D] y114.2).bind fun y121 => some (1, y121.2)) (fun r K => (∃ i' w' s' nw' ns' np' ls' cs' H c'', r = 1 ∧ (rm_to nn F H ∧ rm_fr F H) ∧ eg T n M G0 c0 O N off voff ph cx cb A B i0 ls0 cs0 w0 s0 nw0 ns0 np0 c t ((8, 0, 0, 0) :: W) L P Q H K i' ls' cs' w' s' nw' ns' np' c'' ∧ tlr cb N A B w0 s0 nw0 ns0 np0 c H K ls' cs' w' s' nw' ns' np' c'' ∧ rts i w s nw ns i' w' s' nw' ns') ∨ (∃ e p, r = 1 ∧ rm_out nn e p F ∧ sx T n G0 c0 O e p N (zz t + 50) K)) := by
  have hB0 := hB
  obtain ⟨m1, m2, m3, m4, m5, m6, m7, m8, m9, m10, m11, m12⟩ := hB0
  have hM1 := hM.1
  have hiM := h.1.1.2.2.1
  have hN := h.2.2.1.1.1.1
  have m8 : W.length + 1 ≤ 20 * t + 20 := m8
  obtain ⟨F1, d1, f1, w1⟩ := link_in hM h ht h62 (by omega) (by omega) (by omega)
  have hgo := fun H => ry_go (nn := nn) (H := H) h.1 (by show W.length < 4000; omega)
  have hba := fun k p => ry_ba (nn := nn) (k := k) (p := p) h.1 (by show W.length < 4000; omega)
  have h33 : dk_32 nn (wq_up F 0 46 W.length) (8, 0, 0, 0).1 (8, 0, 0, 0).2.1 (8, 0, 0, 0).2.2.1 (8, 0, 0, 0).2.2.2 = dk_245 (wq_up F 0 46 W.length) := by
    show dk_32 nn (wq_up F 0 46 W.length) 8 0 0 0 = _
    rw [dk32_8, od_bI]
  have hd := h33.trans (rS hM (ry_pop h.1))
  rw [if_neg (by omega), if_neg (by omega), if_neg (by omega), rG hM (ry_pop h.1), od_bS] at hd
  dsimp only at hd
  rw [if_ck, if_pos hgv, d1, od_bS] at hd
  dsimp only at hd
  generalize dk_32 nn (wq_up F 0 46 W.length) (8, 0, 0, 0).1 (8, 0, 0, 0).2.1 (8, 0, 0, 0).2.2.1 (8, 0, 0, 0).2.2.2 = mm at *
  refine wok_b w1 fun r1 K1 h1 => ?_
  dsimp only
  obtain ⟨wa, sa, e1, u1, u2, u3, u4, _⟩ := h1
  have hw2 : F1 0 41 = wa := e1.1.2.1.2.1
  rw [dkS_30 (by omega), od_bS] at hd
  dsimp only at hd
  have hr2 : ry T n M i ls t (wa + 1) nw np W L P (pm_em F1 14 0 0 0) := ry_em e1.1
  have b2 := bz_em (op := 14) (a := 0) (b := 0) (ln := 0) e1.2.2.1
  have hat := pm_em_at (F := F1) (op := 14) (a := 0) (b := 0) (ln := 0)
  rw [hw2] at hat
  have b4 : bz N off voff ph cx (1 :: 0 :: c) np (pm_em F1 14 0 0 0) ls K1 cs := bz_h b2 (bzG_refl _) (fun l hl => by
    by_cases z : l = N - 1
    · rw [if_pos z, z, bz_hc b2, hg_1]
    · rw [if_neg z]) (fun k _ _ h => cx_at_c h) (bz_c0 b2 (by decide))
  have e2 : eg T n M G0 c0 O N off voff ph cx cb F1 K1 i ls cs wa sa nw ns np (0 :: c) t W L P Q (pm_em F1 14 0 0 0) K1 i ls cs (wa + 1) sa nw ns np (1 :: 0 :: c) := by
    refine ⟨hr2, e1.2.1, b4, ?_, ⟨st_sf_refl _, st_pre_refl _, ⟨fun _ _ => ⟨rfl, rfl⟩, fun _ _ _ _ => rfl⟩⟩, Nat.le_refl _, m5⟩
    refine pj_1 ⟨by omega, by omega, by omega, by omega⟩ (fun d j q => pm_em_ne (by omega) (by omega)) (fun d j q => rfl) (fun H J nm ha2 hb2 _ => Or.inl ⟨13, ?_, rfl⟩)
    rw [ha2.1 20 wa (by decide) (by decide) (by omega) (by omega)]
    exact hat.1
  rw [cy_84 e1.2.1 e1.2.2.1, od_bS]
  dsimp only
  refine wok_l ?_
  rw [hg_0, show (hg c + 1 + (4294967296 - 1)) % 4294967296 = hg c by omega]
  have hw0 := e1.2.2.2.1.1
  exact link_end (a0 := []) hM h ht h62 hn hc0 hO hB hW htD hD hE hT hk (eg_t e1 e2 h62) (rm_fr_em f1) hgo hba (fun e he => absurd he (List.not_mem_nil)) hd ⟨by omega, by omega, by omega, by omega, by omega⟩ (by show hg (1 :: 0 :: c) ≤ _; rw [hg_1, hg_0]; omega) hgv
/-- an instruction on both sides -/
theorem pj_e {lv : Nat → Prop} {f m o a b l op x y l' : Nat} {A' B' : wq_F} {d : List Nat} (hA : ∀ d j, 12 ≤ d ∧ d ≤ 24 → A' d j = pm_em A o a b l d j) (hw : A 0 41 = w) (hq : qf s ns B B') (hi : cI B' s op x y l') (hf : ∀ (H J : wq_F) (nm : Nat → Nat → Prop), rI H w o a b l → cI J s op x y l' → nmr ls cs nm → (∃ k, cs1 H J nm k f w s c [(f, w + 1, s + 1, d)]) ∨ ∃ k, cs2 H J k f w s c [(f, w + 1, s + 1, d)]) : pj ls cs lv f cb A B w s nw ns m c A' B' (w + 1) (s + 1) nw ns m d [] [] := by
  have hat := pm_em_at (F := A) (op := o) (a := a) (b := b) (ln := l)
  rw [hw] at hat
  refine pj_1 ⟨by omega, by omega, by omega, by omega⟩ (fun d j q => (hA d j (by omega)).trans (pm_em_ne (by omega) (by omega))) (fun d j q => hq d j (by omega)) (fun H J nm ha hb hnm => hf H J nm ⟨?_, ?_, ?_, ?_⟩ ⟨?_, ?_, ?_, ?_⟩ hnm)
  · rw [ha.1 20 w (by decide) (by decide) (by omega) (by omega), hA 20 w (by decide)]; exact hat.1
  · rw [ha.1 21 w (by decide) (by decide) (by omega) (by omega), hA 21 w (by decide)]; exact hat.2.1
  · rw [ha.1 22 w (by decide) (by decide) (by omega) (by omega), hA 22 w (by decide)]; exact hat.2.2.1
  · rw [ha.1 23 w (by decide) (by decide) (by omega) (by omega), hA 23 w (by decide)]; exact hat.2.2.2.1
  · rw [hb.1 12 s (by decide) (by decide) (by omega) (by omega)]; exact hi.1
  · rw [hb.1 13 s (by decide) (by decide) (by omega) (by omega)]; exact hi.2.1
  · rw [hb.1 14 s (by decide) (by decide) (by omega) (by omega)]; exact hi.2.2.1
  · rw [hb.1 15 s (by decide) (by decide) (by omega) (by omega)]; exact hi.2.2.2
/-- : name -/
theorem link_call {D k : Nat} (hM : tk_M T n M) (h : eg T n M G0 c0 O N off voff ph cx cb A B i0 ls0 cs0 w0 s0 nw0 ns0 np0 c t ((8, 0, 0, 0) :: W) L P Q F G i ls cs w s nw ns np c') (ht : tlr cb N A B w0 s0 nw0 ns0 np0 c F G ls cs w s nw ns np c') (h62 : ∀ l, l < N → B 62 l < np0) (hn : 10000 < nn) (hc0 : c0.length ≤ 1400) (hO : O ≤ 20000) (hB : bnd i (w + 2) (s + 1) nw ns np t (hg c + 2) ((8, 0, 0, 0) :: W) L P Q N) (hW : W.length ≤ 20 * t + 6) (htD : t = D) (hD : D ≤ 20) (hE : E_ok nn T n M G0 c0 O (D + 1)) (hT : Tb_ok nn T n M G0 c0 O D) (hk : 20 * (22 - D) + 9 ≤ k) (hkk : tk_k T n i = 5 ∧ tk_V T n (tk_pos T n i) = 58) :
    wok ((dk_136 G).bind fun y86 => (dk_77 nn y86.2).bind fun y90 => (dk_112 y90.2 29 0 (G 57 6) 1).bind fun y94 => (dk_135 y94.2).bind fun y98 => (dk_77 nn y98.2).bind fun y102 => (dk_112 y102.2 11 0 (G 57 6) 4294967295).bind fun y106 => (dk_112 y106.2 30 0 (G 57 6) 0).bind fun y110 => (dk_84 y110.2).bind fun y114 => od_let ((y114.1 + (4294967296 - 2)) % 4294967296) fun y118 => (dk_R nn k 139 [y118, D] y114.2).bind fun y121 => some (1, y121.2)) (fun r K => (∃ i' w' s' nw' ns' np' ls' cs' H c'', r = 1 ∧ (rm_to nn F H ∧ rm_fr F H) ∧ eg T n M G0 c0 O N off voff ph cx cb A B i0 ls0 cs0 w0 s0 nw0 ns0 np0 c t ((8, 0, 0, 0) :: W) L P Q H K i' ls' cs' w' s' nw' ns' np' c'' ∧ tlr cb N A B w0 s0 nw0 ns0 np0 c H K ls' cs' w' s' nw' ns' np' c'' ∧ rts i w s nw ns i' w' s' nw' ns') ∨ (∃ e p, r = 1 ∧ rm_out nn e p F ∧ sx T n G0 c0 O e p N (zz t + 50) K)) := by
  have hB0 := hB
  obtain ⟨m1, m2, m3, m4, m5, m6, m7, m8, m9, m10, m11, m12⟩ := hB0
  have hM1 := hM.1
  have hiM := h.1.1.2.2.1
  have hN := h.2.2.1.1.1.1
  have m8 : W.length + 1 ≤ 20 * t + 20 := m8
  have hz : 6310 ≤ zz t ∧ zz t < 9800 := by unfold zz; omega
  have hln : G 57 6 = 1 + lc T (tk_pos T n i) := h.2.1.1.2.1.2.2.1
  obtain ⟨F1, d1, f1, w1⟩ := link_in hM h ht h62 (by omega) (by omega) (by omega)
  have hgo := fun H => ry_go (nn := nn) (H := H) h.1 (by show W.length < 4000; omega)
  have hba := fun k p => ry_ba (nn := nn) (k := k) (p := p) h.1 (by show W.length < 4000; omega)
  have h33 : dk_32 nn (wq_up F 0 46 W.length) (8, 0, 0, 0).1 (8, 0, 0, 0).2.1 (8, 0, 0, 0).2.2.1 (8, 0, 0, 0).2.2.2 = dk_245 (wq_up F 0 46 W.length) := by
    show dk_32 nn (wq_up F 0 46 W.length) 8 0 0 0 = _
    rw [dk32_8, od_bI]
  have hd := h33.trans (rS hM (ry_pop h.1))
  rw [if_neg (by omega), if_neg (by omega), if_pos hkk, d1, od_bS] at hd
  dsimp only at hd
  generalize dk_32 nn (wq_up F 0 46 W.length) (8, 0, 0, 0).1 (8, 0, 0, 0).2.1 (8, 0, 0, 0).2.2.1 (8, 0, 0, 0).2.2.2 = mm at *
  generalize hlv : G 57 6 = ln at *
  -- stopped
  have tlB : ∀ (e p B' : Nat) (K : wq_F), sx T n G0 c0 O e p N B' K → B' + 3 ≤ zz t + 50 → rm_out nn e p F → wok ((dk_112 K 11 0 ln 4294967295).bind fun y106 => (dk_112 y106.2 30 0 ln 0).bind fun y110 => (dk_84 y110.2).bind fun y114 => od_let ((y114.1 + (4294967296 - 2)) % 4294967296) fun y118 => (dk_R nn k 139 [y118, D] y114.2).bind fun y121 => some (1, y121.2)) (fun r K => (∃ i' w' s' nw' ns' np' ls' cs' H c'', r = 1 ∧ (rm_to nn F H ∧ rm_fr F H) ∧ eg T n M G0 c0 O N off voff ph cx cb A B i0 ls0 cs0 w0 s0 nw0 ns0 np0 c t ((8, 0, 0, 0) :: W) L P Q H K i' ls' cs' w' s' nw' ns' np' c'' ∧ tlr cb N A B w0 s0 nw0 ns0 np0 c H K ls' cs' w' s' nw' ns' np' c'' ∧ rts i w s nw ns i' w' s' nw' ns') ∨ (∃ e p, r = 1 ∧ rm_out nn e p F ∧ sx T n G0 c0 O e p N (zz t + 50) K)) := fun e p B' K hx hB' ho => by
    refine wok_b (sx_112 hx (by omega)) fun r K h => ?_
    dsimp only
    refine wok_b (sx_112 h (by omega)) fun r K h => ?_
    dsimp only
    refine wok_b (sx_84 h) fun r K h => ?_
    dsimp only
    refine wok_l (wok_b (sx_139 h (by omega) hn (by omega)) fun r K h => wok_r (Or.inr ⟨e, p, rfl, ho, sx_le h (by omega)⟩))
  have tlA : ∀ (e p B' : Nat) (K : wq_F), sx T n G0 c0 O e p N B' K → B' + 4 ≤ zz t + 50 → rm_out nn e p F → wok ((dk_112 K 29 0 ln 1).bind fun y94 => (dk_135 y94.2).bind fun y98 => (dk_77 nn y98.2).bind fun y102 => (dk_112 y102.2 11 0 ln 4294967295).bind fun y106 => (dk_112 y106.2 30 0 ln 0).bind fun y110 => (dk_84 y110.2).bind fun y114 => od_let ((y114.1 + (4294967296 - 2)) % 4294967296) fun y118 => (dk_R nn k 139 [y118, D] y114.2).bind fun y121 => some (1, y121.2)) (fun r K => (∃ i' w' s' nw' ns' np' ls' cs' H c'', r = 1 ∧ (rm_to nn F H ∧ rm_fr F H) ∧ eg T n M G0 c0 O N off voff ph cx cb A B i0 ls0 cs0 w0 s0 nw0 ns0 np0 c t ((8, 0, 0, 0) :: W) L P Q H K i' ls' cs' w' s' nw' ns' np' c'' ∧ tlr cb N A B w0 s0 nw0 ns0 np0 c H K ls' cs' w' s' nw' ns' np' c'' ∧ rts i w s nw ns i' w' s' nw' ns') ∨ (∃ e p, r = 1 ∧ rm_out nn e p F ∧ sx T n G0 c0 O e p N (zz t + 50) K)) := fun e p B' K hx hB' ho => by
    refine wok_b (sx_112 hx (by omega)) fun r K h => ?_
    dsimp only
    refine wok_b (sx_135 h) fun r K h => ?_
    dsimp only
    refine wok_b (sx_77 h) fun r K h => ?_
    dsimp only
    exact tlB e p _ K h (by omega) ho
  refine wok_b w1 fun r1 K1 h1 => ?_
  dsimp only
  obtain ⟨wa, sa, e1, u1, u2, u3, u4, _⟩ := h1
  have hw0 := e1.2.2.2.1.1
  refine wok_b (bt_77 (B := 6200) hM e1.1 e1.2.1 e1.2.2.1 (by omega) (by omega) (by omega) hc0 hO (by omega) (by omega) m5 (by omega)) fun r2 K2 h2 => ?_
  dsimp only
  rcases h2 with ⟨iM, e2, ms, c2, b2, f2, p2⟩ | ⟨e2, hx⟩
  · rw [e2, od_bS] at hd
    dsimp only at hd
    rw [if_neg (by decide)] at hd
    have hr2 := ry_nx e1.1 iM
    have b2' : bz N off voff ph cx (0 :: c) np (wq_up F1 0 25 (i + 1)) ls K2 ms := bz_fu b2 (by omega)
    have ff2 : rm_fr F (wq_up F1 0 25 (i + 1)) := rm_fr_up f1 (by decide) (by decide)
    have eg2 := eg_t e1 (eg_n (cb := cb) hr2 c2 b2' (fun d j q => wq_up_cell (by omega)) (qf_fr f2) p2 (Nat.le_succ _) m5) h62
    rw [od_g1 (pm_b hM hr2.1)] at hd
    have hkd := pm_kind hr2.1
    generalize wq_up F1 0 25 (i + 1) = F2 at *
    have hw2 : F2 0 41 = wa := hr2.2.1.2.1
    have k57 : K2 57 4 = tk_ty T n (tk_pos T n (i + 1)) := c2.1.2.1.1
    by_cases q1 : tk_k T n (i + 1) = 1
    · have hr3 : ry T n M (i + 1) ls t (wa + 1) nw np W L P (pm_em F2 45 0 0 0) := ry_em hr2
      rw [if_pos (hkd.trans q1), dkS_30 (by omega), od_bS] at hd
      dsimp only at hd
      have b3F := bz_em (op := 45) (a := 0) (b := 0) (ln := 0) b2'
      have x3 : ∀ d j, 12 ≤ d ∧ d ≤ 24 → pm_em F2 45 0 0 0 d j = pm_em F2 45 0 0 0 d j := fun _ _ _ => rfl
      have ff3 : rm_fr F (pm_em F2 45 0 0 0) := rm_fr_em ff2
      generalize hX3 : pm_em F2 45 0 0 0 = F3 at *
      have hw3 : F3 0 41 = wa + 1 := hr3.2.1.2.1
      obtain ⟨sn, v1, v2, v3⟩ := c2.1.2.2.2.2.1 (Or.inl q1)
      have hsl : ms.length ≤ c0.length + (i + 1) + 1 := c2.1.2.2.2.2.2.1.2.2.1
      have vr := (hr3.1.2.2.2.2.2.1 (i + 1) (by omega)).2.2.2 (Or.inl q1)
      have hlb := lsb_len b3F.2.2.2.2.2.2.2 hr3.1.2.2.2.2.2.2
      have v11 : ev_oL2i (18446744073709551616 + F3 11 (F3 0 25)) = F3 11 (i + 1) := by
        rw [hr3.1.2.1]
        exact tb_l2i (by omega)
      rw [od_g1 (pm_b hM hr3.1), od_letS, v11, dkS_30 (by omega), od_bS] at hd
      dsimp only at hd
      have hr4 : ry T n M (i + 1) ls t (wa + 1 + 1) nw np W L P (pm_em F3 5 (F3 11 (i + 1)) 0 0) := ry_em hr3
      have b4F := bz_em (op := 5) (a := F3 11 (i + 1)) (b := 0) (ln := 0) b3F
      have ff4 : rm_fr F (pm_em F3 5 (F3 11 (i + 1)) 0 0) := rm_fr_em ff3
      generalize hX4 : pm_em F3 5 (F3 11 (i + 1)) 0 0 = F4 at *
      have hw4 : F4 0 41 = wa + 1 + 1 := hr4.2.1.2.1
      rw [dkS_30 (by omega), od_bS] at hd
      dsimp only at hd
      have hr5 : ry T n M (i + 1) ls t (wa + 1 + 1 + 1) nw np W L P (pm_em F4 12 0 0 (1 + lc T (tk_pos T n i))) := ry_em hr4
      have b5F := bz_em (op := 12) (a := 0) (b := 0) (ln := 1 + lc T (tk_pos T n i)) b4F
      have ff5 : rm_fr F (pm_em F4 12 0 0 (1 + lc T (tk_pos T n i))) := rm_fr_em ff4
      generalize hX5 : pm_em F4 12 0 0 (1 + lc T (tk_pos T n i)) = F5 at *
      have hw5 : F5 0 41 = wa + 1 + 1 + 1 := hr5.2.1.2.1
      rw [dkS_30 (by omega), od_bS] at hd
      dsimp only at hd
      have hr6 : ry T n M (i + 1) ls t (wa + 1 + 1 + 1 + 1) nw np W L P (pm_em F5 46 0 0 0) := ry_em hr5
      have b6F := bz_em (op := 46) (a := 0) (b := 0) (ln := 0) b5F
      have ff6 : rm_fr F (pm_em F5 46 0 0 0) := rm_fr_em ff5
      generalize hX6 : pm_em F5 46 0 0 0 = F6 at *
      have hw6 : F6 0 41 = wa + 1 + 1 + 1 + 1 := hr6.2.1.2.1
      rw [dkS_30 (by omega), od_bS] at hd
      dsimp only at hd
      have hr7 : ry T n M (i + 1) ls t (wa + 1 + 1 + 1 + 1 + 1) nw np W L P (pm_em F6 15 0 0 0) := ry_em hr6
      have b7F := bz_em (op := 15) (a := 0) (b := 0) (ln := 0) b6F
      have ff7 : rm_fr F (pm_em F6 15 0 0 0) := rm_fr_em ff6
      have hat7 := pm_em_at (F := F6) (op := 15) (a := 0) (b := 0) (ln := 0)
      rw [hw6] at hat7
      have x7 : ∀ d j, ¬ (20 ≤ d ∧ d ≤ 23 ∧ j = wa + 1 + 1 + 1 + 1) → ¬ (d = 0 ∧ j = 41) → pm_em F6 15 0 0 0 d j = F6 d j := fun d j y1 y2 => pm_em_ne (by omega) y2
      have hbF : bzF F2 (pm_em F6 15 0 0 0) := by
        rw [← hX6, ← hX5, ← hX4, ← hX3]
        exact bzF_em (bzF_em (bzF_em (bzF_em (bzF_em (bzF_refl _)))))
      generalize pm_em F6 15 0 0 0 = F7 at *
      -- the class: copy, name
      refine wok_b (cy_p1 (e := 0) (op := 29) (a := 0) (ln := ln) c2 b2' (by omega) (by rw [hg_0]; omega) (by decide)) fun r3 K3 h3 => ?_
      dsimp only
      obtain ⟨c3, b3, i3, q3, _⟩ := h3
      have k573 : K3 57 4 = tk_ty T n (tk_pos T n (i + 1)) := c3.1.2.1.1
      obtain ⟨sn3, v31, v32, v33⟩ := c3.1.2.2.2.2.1 (Or.inl q1)
      have t135 : wok (dk_135 K3) (fun _ K => cy T n G0 c0 O (i + 1) ms (sa + 1 + 1) ns np N Q K ∧ bz N off voff ph cx (0 :: 0 :: 0 :: c) np F2 ls K ms ∧ cI K (sa + 1) 4 sn3 0 (K3 57 6) ∧ qf (sa + 1) ns K3 K) := by
        unfold dk_135
        refine wok_t (k573.trans (tk_ty_kind.1.mpr q1)) ?_
        rw [v31, tb_l2i (show sn3 < 4294967296 by omega)]
        exact wok_b (cy_p1 (e := 0) c3 b3 (by omega) (by rw [hg_0, hg_0]; omega) (by decide)) fun r K h => wok_r ⟨h.1, h.2.1, h.2.2.1, h.2.2.2.1⟩
      refine wok_b t135 fun r4 K4 h4 => ?_
      dsimp only
      obtain ⟨c4, b4, i4, q4⟩ := h4
      have b4' : bz N off voff ph cx (0 :: 0 :: 0 :: c) np F7 ls K4 ms := bz_F b4 hbF
      refine wok_b (bt_77 (B := 6210) hM hr7 c4 b4' (by omega) (by omega) (by omega) hc0 hO (by omega) (by omega) m5 (by omega)) fun r5 K5 h5 => ?_
      dsimp only
      rcases h5 with ⟨iM5, e5, ms5, c5, b5, f5, p5⟩ | ⟨e5, hx⟩
      · rw [e5, od_bS] at hd
        dsimp only at hd
        rw [if_neg (by decide)] at hd
        have hr8 := ry_nx hr7 iM5
        have b5' : bz N off voff ph cx (0 :: 0 :: 0 :: c) np (wq_up F7 0 25 (i + 1 + 1)) ls K5 ms5 := bz_fu b5 (by omega)
        have ff8 : rm_fr F (wq_up F7 0 25 (i + 1 + 1)) := rm_fr_up ff7 (by decide) (by decide)
        have x8 : ∀ d j, 12 ≤ d ∧ d ≤ 24 → wq_up F7 0 25 (i + 1 + 1) d j = F7 d j := fun d j q => wq_up_cell (by omega)
        generalize wq_up F7 0 25 (i + 1 + 1) = F8 at *
        rw [rG hM hr8, od_bS] at hd
        dsimp only at hd
        rw [if_ck] at hd
        have q5 : qf (sa + 1 + 1) ns K4 K5 := qf_fr f5
        have at2 : ∀ p s, cx_at (0 :: 0 :: 0 :: c) p s → cx_at (0 :: 0 :: c) p s := fun p s h => cx_at_dn (a := [0]) (fun e he => by rw [List.mem_singleton.mp he]; decide) h
        refine wok_b (cy_112 (op := 11) (a := 0) (ln := ln) (by' := 4294967295) (d := 0 :: 0 :: c) c5 b5' (by omega) (by rw [hg_0, hg_0, hg_0, hg_0, hg_0]; omega) (fun k _ _ h => at2 _ _ h) (fun e he => bz_fr b5' e (List.mem_cons_of_mem _ he))) fun r6 K6 h6 => ?_
        dsimp only
        obtain ⟨c6, b6, i6, q6, _⟩ := h6
        refine wok_b (cy_112 (op := 30) (a := 0) (ln := ln) (by' := 0) (d := 0 :: 0 :: c) c6 b6 (by omega) (by rw [hg_0, hg_0]; omega) (fun k _ _ h => h) (fun e he => bz_fr b6 e he)) fun r7 K7 h7 => ?_
        dsimp only
        obtain ⟨c7, b7, i7, q7, _⟩ := h7
        rw [cy_84 c7 b7, od_bS]
        dsimp only
        refine wok_l ?_
        rw [hg_0, hg_0, show (hg c + 1 + 1 + (4294967296 - 2)) % 4294967296 = hg c by omega]
        by_cases hgv : tk_k T n (i + 1 + 1) = 3 ∨ (tk_k T n (i + 1 + 1) = 5 ∧ (tk_V T n (tk_pos T n (i + 1 + 1)) = 40 ∨ tk_V T n (tk_pos T n (i + 1 + 1)) = 123))
        · rw [if_pos hgv] at hd
          have b8 : bz N off voff ph cx ([0] ++ 1 :: 0 :: c) np F8 ls K7 ms5 := bz_h b7 (bzG_refl _) (fun l hl => by
            by_cases z : l = N - 1
            · rw [if_pos z, z, bz_hc b7]
              show hg (0 :: 0 :: c) = hg (0 :: 1 :: 0 :: c)
              rw [hg_0, hg_0, hg_0, hg_1, hg_0]
            · rw [if_neg z]) (fun k _ _ h => cx_at_c (cx_at_c (cx_at_dn (a := [0]) (fun e he => by rw [List.mem_singleton.mp he]; decide) h))) (fun e he => by
              rcases List.mem_cons.mp he with z | z
              · omega
              · rcases List.mem_cons.mp z with y | y
                · omega
                · exact bz_fr b7 e (List.mem_cons_of_mem _ y))
          have st : ∀ x, st_pre x x := fun x => st_pre_refl x
          have h62' : ∀ g, np ≤ g → ¬ lvl N K2 g := fun g hg ⟨l, l1, l2⟩ => by have := b2'.2.2.2.2.2.1 l l1; omega
          have hf62 : K2 62 (N - 1) < np := b2'.2.2.2.2.2.1 (N - 1) (by omega)
          have j1 : pj ls ms5 (lvl N K2) (K2 62 (N - 1)) cb F2 K2 wa sa nw ns np (0 :: c) F3 K3 (wa + 1) (sa + 1) nw ns np (0 :: 0 :: c) [] [] := pj_e (o := 45) (a := 0) (b := 0) (l := 0) (fun d j q => by rw [hX3]) hw2 q3 i3 (fun H J nm y1 y2 _ => Or.inr ⟨21, y1.1, y2.1, c, rfl, rfl⟩)
          have j2 : pj ls ms5 (lvl N K2) (K2 62 (N - 1)) cb F3 K3 (wa + 1) (sa + 1) nw ns np (0 :: 0 :: c) F4 K4 (wa + 1 + 1) (sa + 1 + 1) nw ns np (0 :: 0 :: 0 :: c) [] [] := pj_e (o := 5) (a := F3 11 (i + 1)) (b := 0) (l := 0) (fun d j q => by rw [hX4]) hw3 q4 i4 (fun H J nm y1 y2 hnm => Or.inl ⟨4, y1.1, y2.1, by
            rw [y1.2.1, y2.2.1]
            exact nmr_up hnm (st_pre_refl _) p5 _ _ vr.1 v32 (vr.2.1.trans v33.symm), rfl⟩)
          have q56 : qf (sa + 1 + 1) ns K4 K6 := qf_trans q5 q6 (Nat.le_refl _) (Nat.le_refl _)
          have j3 : pj ls ms5 (lvl N K2) (K2 62 (N - 1)) cb F4 K4 (wa + 1 + 1) (sa + 1 + 1) nw ns np (0 :: 0 :: 0 :: c) F5 K6 (wa + 1 + 1 + 1) (sa + 1 + 1 + 1) nw ns np (0 :: 0 :: c) [] [] := pj_e (o := 12) (a := 0) (b := 0) (l := 1 + lc T (tk_pos T n i)) (fun d j q => by rw [hX5]) hw4 q56 i6 (fun H J nm y1 y2 hnm => Or.inl ⟨11, y1.1, y2.1, by rw [y1.2.2.2, y2.2.2.2, hln], 0 :: c, rfl, rfl⟩)
          have j4 : pj ls ms5 (lvl N K2) (K2 62 (N - 1)) cb F5 K6 (wa + 1 + 1 + 1) (sa + 1 + 1 + 1) nw ns np (0 :: 0 :: c) F6 K7 (wa + 1 + 1 + 1 + 1) (sa + 1 + 1 + 1 + 1) nw ns np (0 :: 0 :: c) [] [] := pj_e (o := 46) (a := 0) (b := 0) (l := 0) (fun d j q => by rw [hX6]) hw5 q7 i7 (fun H J nm y1 y2 hnm => Or.inr ⟨22, y1.1, y2.1, c, rfl, rfl⟩)
          have j5 : pj ls ms5 (lvl N K2) (K2 62 (N - 1)) cb F6 K7 (wa + 1 + 1 + 1 + 1) (sa + 1 + 1 + 1 + 1) nw ns np (0 :: 0 :: c) F8 K7 (wa + 1 + 1 + 1 + 1 + 1) (sa + 1 + 1 + 1 + 1) nw ns np ([0] ++ 1 :: 0 :: c) [] [] := by
            refine pj_1 ⟨by omega, by omega, by omega, by omega⟩ (fun d j q => (x8 d j (by omega)).trans (x7 d j (by omega) (by omega))) (fun d j q => rfl) (fun H J nm ha2 hb2 _ => Or.inl ⟨14, ?_, 0 :: c, rfl, rfl⟩)
            rw [ha2.1 20 _ (by decide) (by decide) (by omega) (by omega), x8 20 _ (by decide)]
            exact hat7.1
          have jj := pj_t j1 (pj_t j2 (pj_t j3 (pj_t j4 j5 (st _) (st _) h62' hf62) (st _) (st _) h62' hf62) (st _) (st _) h62' hf62) (st _) (st _) h62' hf62
          have qq : qf sa ns K2 K7 := qf_trans q3 (qf_trans q4 (qf_trans q56 q7 (by omega) (Nat.le_refl _)) (by omega) (Nat.le_refl _)) (by omega) (Nat.le_refl _)
          have eg8 : eg T n M G0 c0 O N off voff ph cx cb F2 K2 (i + 1) ls ms wa sa nw ns np (0 :: c) t W L P Q F8 K7 (i + 1 + 1) ls ms5 (wa + 1 + 1 + 1 + 1 + 1) (sa + 1 + 1 + 1 + 1) nw ns np ([0] ++ 1 :: 0 :: c) := ⟨hr8, c7, b8, jj, ⟨st_sf_refl _, p5, ⟨fun l _ => ⟨qq 62 l (by omega), qq 65 l (by omega)⟩, fun l _ e6 h6 => qq e6 l (by omega)⟩⟩, Nat.le_succ _, m5⟩
          exact link_end (a0 := [0]) hM h ht h62 hn hc0 hO hB hW htD hD hE hT hk (eg_t eg2 eg8 h62) ff8 hgo hba (fun e he => List.mem_singleton.mp he) hd ⟨by omega, by omega, by omega, by omega, by omega⟩ (by show hg (0 :: 1 :: 0 :: c) ≤ _; rw [hg_0, hg_1, hg_0]; omega) hgv
        · rw [if_neg hgv, pm_wrong hM hr8.1] at hd
          refine wok_b (g_no (B' := 6210) (W := W) (L := L) (P := P) hM hr8 c7 b7 (by omega) hn hgv (by omega) (by decide) (by omega) m5 (by omega)) fun r K h => wok_r ?_
          exact Or.inr ⟨_, _, rfl, hba _ _ (rba_f hd ff8 (by rw [hr8.2.1.2.1]; omega)), sx_le h (by omega)⟩
      · rw [e5, od_bS] at hd
        exact tlB _ _ _ _ hx (by omega) (hba _ _ (rba_f (hd.trans (if_pos rfl)) ff7 (by rw [hr7.2.1.2.1]; omega)))
    · rw [if_neg (fun z => q1 (hkd.symm.trans z)), pm_wrong hM hr2.1] at hd
      have ho := hba _ _ (rba_f hd ff2 (by rw [hr2.2.1.2.1]; omega))
      refine wok_b (cy_p1 (e := 0) (op := 29) (a := 0) (ln := ln) c2 b2' (by omega) (by rw [hg_0]; omega) (by decide)) fun r3 K3 h3 => ?_
      dsimp only
      obtain ⟨c3, b3, i3, q3, _⟩ := h3
      have k573 : K3 57 4 = tk_ty T n (tk_pos T n (i + 1)) := c3.1.2.1.1
      have t135 : wok (dk_135 K3) (fun _ K => sx T n G0 c0 O (tk_wr T n (i + 1)) (tk_pos T n (i + 1)) N 6210 K) := by
        unfold dk_135
        refine wok_f (fun z => q1 (tk_ty_kind.1.mp (k573.symm.trans z))) ?_
        exact wok_b (bt_wr (B := 6210) hM hr2 c3 b3 (by omega) (by omega) m5 (by omega)).2 fun r K h => wok_r h
      refine wok_b t135 fun r4 K4 h4 => ?_
      dsimp only
      refine wok_b (sx_77 h4) fun r5 K5 h5 => ?_
      dsimp only
      exact tlB _ _ _ _ h5 (by omega) ho
  · rw [e2, od_bS] at hd
    have ho := hba _ _ (rba_f (hd.trans (if_pos rfl)) f1 (by rw [e1.1.2.1.2.1]; omega))
    exact tlA _ _ _ _ hx (by omega) ho
end
