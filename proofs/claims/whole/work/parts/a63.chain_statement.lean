/-! ===== a63: a chain as a statement (wip/whole2/lawa63.py) ===== -/
section
variable {nn : Nat} {T : Nat → Nat} {n M O : Nat} {G0 : wq_F} {c0 : List (List Nat)} {i t w s nw ns np N : Nat} {off voff ph : Nat → Nat} {cx : Nat → List Nat} {c cb : List Nat} {W : List (Nat × Nat × Nat × Nat)} {L : List (Nat × Nat)} {P Q : List (Nat × Nat × Nat)} {ls cs : List (List Nat)} {F G : wq_F}

variable {Jr0 Jc0 : List Nat}
theorem st_chain {D k : Nat} (hM : tk_M T n M) (hn : 10000 < nn) (hc0 : c0.length ≤ 1400) (hO : O ≤ 20000) (hn2 : 14000 < nn) (hD : D ≤ 20) (hE : E_ok nn T n M G0 c0 O (D + 1)) (hT : Tb_ok nn T n M G0 c0 O D) (hkf : 20 * (22 - D) + 12 ≤ k) (htD : t = D) (hr : ry T n M i ls t w nw np W L P F) (hc : cy T n G0 c0 O i cs s ns np N Q G) (hb : bz N off voff ph cx c np F ls G cs) (hB : bnd i (w + 1) s nw ns np t (hg c) W L P Q N) (hW : W.length ≤ 20 * t) (hPQ : P.length + 20 ≤ 20 * t ∧ Q.length + 20 ≤ 20 * t) (hbo : bo N L F G w s Jr0 Jc0) : wok (dk_140 (dk_R nn k) nn G D) (fun _ K => (∃ i' w' s' nw' ns' np' ls' cs' H c' off' voff' ph' L' Jr Jc, rgo nn F ((dk_30 F 14 0 0 0).bind fun y180 => (dk_31 y180.2 21 (y180.2 0 60) 0 0).bind fun y184 => (dk_31 y184.2 7 0 0 0).bind fun y188 => some (1, y188.2)) H ∧ ge T n M G0 c0 O N cx cb F G i ls cs w s nw ns np c off voff ph L Jr0 Jc0 t W P Q H K i' ls' cs' w' s' nw' ns' np' c' off' voff' ph' L' Jr Jc ∧ lo N voff c voff' ph' c' K ∧ rts i w s nw ns i' (w' + 1) (s' + 1) nw' ns' ∧ hg c' + 2 * i ≤ hg c + 2 * i') ∨ ∃ e p, rba nn F ((dk_30 F 14 0 0 0).bind fun y180 => (dk_31 y180.2 21 (y180.2 0 60) 0 0).bind fun y184 => (dk_31 y184.2 7 0 0 0).bind fun y188 => some (1, y188.2)) e p ∧ sxy T n G0 c0 O e p N (zz D + 98) K) := by
  have hz : 6310 ≤ zz D ∧ zz D < 9800 ∧ zz (D + 1) + 110 = zz D := by unfold zz; omega
  obtain ⟨m1, m2, m3, m4, m5, m6, m7, m8, m9, m10, m11, m12⟩ := hB
  have hM1 := hM.1
  have hiM := hr.1.2.2.1
  have hN := hb.1.1
  have h62 := hb.2.2.2.2.2.1
  have hw1 : F 0 41 = w := hr.2.1.2.1
  have k11 : G 56 11 = 3 * Q.length := hc.2.2.1.1
  -- the mark, the waits
  have em := e_mark (cb := cb) (a := 0) (b := 0) (l := 0) hr hc hb m5
  have e1 := e_la (cb := cb) (x1 := 21) (x2 := P.length) (x3 := 0) (x4 := 0) em.1 em.2.1 em.2.2.1 m5
  have e2 := e_la (cb := cb) (x1 := 7) (x2 := 0) (x3 := 0) (x4 := 0) e1.1 e1.2.1 e1.2.2.1 m5
  have hqm := em.2.2.1.2.2.2.2.2.1
  have E3 := eg_t em (eg_t e1 e2 hqm) h62
  have hd : ((dk_30 F 14 0 0 0).bind fun y180 => (dk_31 y180.2 21 (y180.2 0 60) 0 0).bind fun y184 => (dk_31 y184.2 7 0 0 0).bind fun y188 => some (1, y188.2)) = some (1, pm_la (pm_la (pm_em F 14 0 0 0) 21 P.length 0 0) 7 0 0 0) := by
    rw [dkS_30 (by omega), od_bS]
    dsimp only
    rw [show pm_em F 14 0 0 0 0 60 = P.length from em.1.2.2.2.2.1, dkS_31 (by rw [em.1.2.2.1.1]; omega), od_bS]
    dsimp only
    rw [dkS_31 (by rw [e1.1.2.2.1.1]; show W.length + 1 < 4000; omega), od_bS]
  generalize ((dk_30 F 14 0 0 0).bind fun y180 => (dk_31 y180.2 21 (y180.2 0 60) 0 0).bind fun y184 => (dk_31 y184.2 7 0 0 0).bind fun y188 => some (1, y188.2)) = mm at *
  have ff3 : rm_fr F (pm_la (pm_la (pm_em F 14 0 0 0) 21 P.length 0 0) 7 0 0 0) := rm_fr_la (rm_fr_la (rm_fr_em (rm_fr_refl _)))
  generalize pm_la (pm_la (pm_em F 14 0 0 0) 21 P.length 0 0) 7 0 0 0 = F3 at *
  have g3 : rgo nn F mm F3 := rgo_i hd (by decide) E3.1.1.1 ff3
  have hq3 := E3.2.2.1.2.2.2.2.2.1
  unfold dk_140
  rw [cy_84 hc hb, od_bS]
  dsimp only
  obtain ⟨k', rfl⟩ : ∃ a, k = a + 1 := ⟨k - 1, by omega⟩
  refine wok_b (wok_pe (ch_ok (cb := cb) (k := k' + 1) hM hE hT (by omega) htD hD hn hc0 hO E3.1 E3.2.1 E3.2.2.1 ⟨by omega, by omega, by omega, by omega, m5, m6, by rw [hg_1]; omega, by show W.length + 1 ≤ _; omega, m9, m10, m11, m12⟩ (by show W.length + 1 ≤ _; omega)) (pe_R _ _ _ _ _ k11)) fun r6 K6 h6 => ?_
  dsimp only
  obtain ⟨h6, k611⟩ := h6
  rcases h6 with ⟨i6, w6, s6, nw6, ns6, np6, ls6, cs6, H6, c6, g6, E6, t6, ⟨v1, v2, v3, v4, v5⟩⟩ | ⟨e, p, ho, hx⟩
  rotate_left
  · rw [htD] at hx
    have ho' := rgo_o g3 ho
    refine wok_i (fun _ => ?_) (fun _ => ?_)
    · refine wok_b (sx_158 hx (okj_p (by decide)) (by omega)) fun r K h => ?_
      exact wok_b (sx_162 h) fun r K h => wok_r (Or.inr ⟨e, p, ho', Or.inl (sx_le h (by omega))⟩)
    · rw [dk_Re_141]
      unfold dk_141
      rw [sx_142e hx, od_bS, k611]
      obtain ⟨g, hgn⟩ : ∃ a, nn = a + 1 := ⟨nn - 1, by omega⟩
      rw [show dk_141_12 (dk_R nn k') nn nn = dk_141_12 (dk_R nn k') nn (g + 1) by rw [← hgn]]
      exact wok_b (sx_12 (m := 0) hx k611 (by omega) (by omega) (by omega) hn (by omega)) fun r K h => wok_r (Or.inr ⟨e, p, ho', Or.inl (sx_le h (by omega))⟩)
  have i6M := E6.1.1.2.2.1
  have n6 : np6 ≤ 50 := E6.2.2.2.2.2.2
  by_cases q7 : K6 56 7 = 4294967294
  rotate_left
  · -- an assignment
    refine wok_f q7 ?_
    rw [dk_Re_141]
    unfold dk_141
    rw [k611]
    have hcl : ¬ H6 0 61 = 4 := by
      rcases t6 with ⟨z, _⟩ | ⟨z, _⟩ | ⟨z, _⟩ | ⟨z, _⟩ | ⟨_, z, _⟩ | ⟨z, _⟩
      · omega
      · omega
      · omega
      · omega
      · exact absurd z q7
      · omega
    have aok := as_ok (A := F3) (B := G) (i0 := i) (w0 := w + 1) (s0 := s) (nw0 := nw) (ns0 := ns) (np0 := np) (ls0 := ls) (cs0 := cs) (P := P) (Q := Q) (W := W) (L := L) (c := c) (cb := cb) (off := off) (voff := voff) (ph := ph) (cx := cx) (k := k') (D := D) (t := t) hM hn hc0 hO hn2 hD hE hT (by omega) htD hq3 ⟨hW, m9, hPQ.1, hPQ.2, m12, m6⟩ ⟨by omega, by omega, by omega, by omega, by omega⟩ 19 nn [] [] i6 w6 s6 nw6 ns6 np6 (w + 1) s nw ns np ls6 cs6 c6 H6 K6 F3 G rfl (by omega) E6 t6 (E6.2.2.2.2.1.2.2.1 (N - 1) (by omega)).1.symm trivial (fun _ => hcl) ⟨by simp only [List.length_nil]; omega, by simp only [List.length_nil]; omega, by simp only [List.length_nil]; omega, by omega, by omega⟩
    refine wok_b aok fun r K hK => wok_r ?_
    dsimp only
    rcases hK with ⟨i', w', s', nw', ns', np', ls', cs', H, g', E', y1, y2, y3, y4, y5⟩ | ⟨e, p, ho, hx⟩
    · exact Or.inl ⟨i', w', s', nw', ns', np', ls', cs', H, c, off, voff, ph, L, [], [], rgo_t g3 ⟨rm_trans g6.1 g'.1, rm_fr_trans g6.2 g'.2⟩, ge_eg (eg_t E3 E' h62) hbo, lo_refl rfl, ⟨by omega, by omega, by omega, by omega, by omega⟩, by omega⟩
    · exact Or.inr ⟨e, p, rgo_o g3 (rm_to_out g6.1 g6.2 ho), Or.inl (sx_le hx (by omega))⟩
  -- a call
  refine wok_t q7 ?_
  obtain ⟨t1, t3, t4, t5, t7, t8⟩ : H6 0 61 = 4 ∧ c6 = 0 :: 1 :: c ∧ H6 0 62 + 1 = w6 ∧ w + 1 < w6 ∧ s < s6 ∧ cal cb N F3 G (w + 1) s nw ns np (1 :: c) H6 K6 ls6 cs6 w6 s6 nw6 ns6 np6 0 (1 :: c) := by
    rcases t6 with ⟨_, z, _⟩ | ⟨_, z, _⟩ | ⟨_, z, _⟩ | ⟨_, z, _⟩ | ⟨z1, z2, z3, z4, z5, z6, z7, z8⟩ | ⟨_, z, _⟩
    · omega
    · omega
    · omega
    · omega
    · exact ⟨z1, z3, z4, z5, z6, z8⟩
    · omega
  subst t3
  have hgo := fun H => ry_go (nn := nn) (H := H) E6.1 (by show W.length < 4000; omega)
  have hba := fun k p => ry_ba (nn := nn) (k := k) (p := p) E6.1 (by show W.length < 4000; omega)
  have h33 : dk_32 nn (wq_up H6 0 46 W.length) (21, P.length, 0, 0).1 (21, P.length, 0, 0).2.1 (21, P.length, 0, 0).2.2.1 (21, P.length, 0, 0).2.2.2 = dk_256 (wq_up H6 0 46 W.length) P.length := by
    show dk_32 nn (wq_up H6 0 46 W.length) 21 P.length 0 0 = _
    rw [dk32_21b (y := 0) (z := 0)]
  have ep := e_pop (cb := cb) E6.1 E6.2.1 E6.2.2.1 n6
  have fp : rm_fr H6 (wq_up H6 0 46 W.length) := rm_fr_up (rm_fr_refl _) (by decide) (by decide)
  have xp : ∀ d j, ¬ d = 0 → wq_up H6 0 46 W.length d j = H6 d j := fun d j q => wq_up_cell q
  have p61 : wq_up H6 0 46 W.length 0 61 = 4 := (wq_up_at (by decide)).trans t1
  have p62 : wq_up H6 0 46 W.length 0 62 = w6 - 1 := (wq_up_at (by decide)).trans (by omega)
  generalize dk_32 nn (wq_up H6 0 46 W.length) (21, P.length, 0, 0).1 (21, P.length, 0, 0).2.1 (21, P.length, 0, 0).2.2.1 (21, P.length, 0, 0).2.2.2 = mp at *
  generalize wq_up H6 0 46 W.length = Hp at *
  have p60 : Hp 0 60 = P.length := ep.1.2.2.2.2.1
  have pw : Hp 0 41 = w6 := ep.1.2.1.2.1
  have k4 : K6 11 4 = s6 := E6.2.1.2.1.1
  -- the class
  unfold dk_158
  rw [k4, if_pos ⟨by omega, by omega⟩, show (s6 + (4294967296 - 1)) % 4294967296 = s6 - 1 by omega, od_letS, od_g1 (by omega), od_upS, od_bS]
  dsimp only
  have c7 : cy T n G0 c0 O i6 cs6 s6 ns6 np6 N Q (wq_up K6 14 (s6 - 1) 0) := cy_wt E6.2.1 (okj_p (by decide))
  have b7 : bz N off voff ph cx (0 :: 1 :: c) np6 Hp ls6 (wq_up K6 14 (s6 - 1) 0) cs6 := bz_gu ep.2.2.1 (by omega)
  refine wok_b (cy_162 (h := hg c) (d := 1 :: c) c7 b7 hg_1.symm (fun k _ _ z => cx_at_dn (a := [0]) (fun e he => by rw [List.mem_singleton.mp he]; decide) z) (bz_cd (a := [0]) b7 rfl)) fun r8 K8 h8 => ?_
  refine wok_r ?_
  dsimp only
  obtain ⟨c8, b8, q8, _⟩ := h8
  have k8 : ∀ d j, (17 ≤ d ∧ d ≤ 23) ∨ (12 ≤ d ∧ d ≤ 15 ∧ j < s6) ∨ (d = 16 ∧ j < ns6) ∨ d = 62 ∨ d = 65 ∨ d = 61 ∨ d = 60 → K8 d j = wq_up K6 14 (s6 - 1) 0 d j := q8
  have k857 : K8 57 4 = tk_ty T n (tk_pos T n i6) := c8.1.2.1.1
  have s49 := tk_ty_sign (T := T) (n := n) (p := tk_pos T n i6) (c := 61) (by decide)
  have s59 := tk_ty_sign (T := T) (n := n) (p := tk_pos T n i6) (c := 44) (by decide)
  unfold dk_256 at h33
  rw [p61, if_pos ((wd_slt (by decide) (by decide)).mpr (by decide))] at h33
  unfold dk_256_13 at h33
  rw [pm_isSign hM ep.1.1 (by decide), od_bS] at h33
  dsimp only at h33
  rw [if_ck] at h33
  by_cases p1 : tk_k T n i6 = 5 ∧ (tk_V T n (tk_pos T n i6) = 61 ∨ tk_V T n (tk_pos T n i6) = 44)
  · -- the reference refuses it here, the class behind the block
    have e32 : mp = dk_211 Hp := by
      rw [h33]
      have e1 : dk_256_32 Hp P.length 0 = dk_211 Hp := by
        unfold dk_256_32
        rw [if_pos rfl, od_bI]
      by_cases z : tk_k T n i6 = 5 ∧ tk_V T n (tk_pos T n i6) = 61
      · rw [if_pos z, e1]
      · rw [if_neg z, pm_isSign hM ep.1.1 (by decide), od_bS]
        dsimp only
        rw [if_ck, if_pos ⟨p1.1, p1.2.resolve_left (fun y => z ⟨p1.1, y⟩)⟩, e1]
    have wr : tk_wr T n i6 = 2 := by
      unfold tk_wr
      rw [if_neg (by omega)]
    have ho := hba _ _ (rba_f (e32.trans (pm_wrong hM ep.1.1)) fp (by omega))
    rw [wr] at ho
    refine Or.inr ⟨2, tk_pos T n i6, rgo_o g3 (rm_to_out g6.1 g6.2 ho), Or.inr ⟨rfl, ?_, c8.1.1, ?_⟩⟩
    · rcases p1.2 with z | z
      · exact Or.inl (k857.trans (s49.mpr ⟨p1.1, z⟩))
      · exact Or.inr (k857.trans (s59.mpr ⟨p1.1, z⟩))
    · have y : ∀ d j, ¬ (d = 56 ∧ (j = 4 ∨ j = 5 ∨ j = 6)) → ¬ (d = 57 ∧ j = 4) → px_r K8 2 d j = K8 d j := fun d j y1 y2 => by
        unfold px_r
        rw [wq_up_ne y2, wq_up_ne (by omega), wq_up_ne (by omega), wq_up_ne (by omega)]
      refine sx_in c8 b8 ⟨?_, ?_, by decide, ?_, ?_⟩ y (by omega) (by omega) (by omega) n6 (by omega)
      · unfold px_r
        rw [wq_up_same]
      · unfold px_r
        rw [wq_up_cell (by decide), wq_up_at (by decide), wq_up_at (by decide), wq_up_same]
      · unfold px_r
        rw [wq_up_cell (by decide), wq_up_at (by decide), wq_up_same]
        exact c8.1.2.1.2.1
      · unfold px_r
        rw [wq_up_cell (by decide), wq_up_same]
        exact c8.1.2.1.2.2.1
  -- good
  rw [if_neg (fun z => p1 ⟨z.1, Or.inl z.2⟩), pm_isSign hM ep.1.1 (by decide), od_bS] at h33
  dsimp only at h33
  rw [if_ck, if_neg (fun z => p1 ⟨z.1, Or.inr z.2⟩), if_pos (show Hp 0 61 = 4 from p61), if_neg (show ¬ ev_s P.length < ev_s (Hp 0 60) from fun z => by rw [p60] at z; have := (wd_slt (by omega) (by omega)).mp z; omega), od_g1 (show Hp 0 62 < 14000 by rw [p62]; omega), p62, od_upS, dkS_30 (by rw [wq_up_cell (by decide)]; omega), od_bS] at h33
  have r9 : ry T n M i6 ls6 t w6 nw6 np6 W L P (wq_up Hp 21 (w6 - 1) 0) := ry_up ep.1 (by unfold ry_n; omega)
  have b9 : bz N off voff ph cx (1 :: c) np6 (wq_up Hp 21 (w6 - 1) 0) ls6 K8 cs6 := bz_fu b8 (by omega)
  have hc0' := cal_0 (H' := Hp) t8 xp hq3 hN.1
  unfold cal at hc0'
  have hlv : ∀ g, np ≤ g → ¬ lvl N G g := fun g hg ⟨l, l1, l2⟩ => by have := h62 l l1; omega
  have PJ := pj_t hc0' (pj_n (ls := ls6) (cs := cs6) (A' := wq_up Hp 21 (w6 - 1) 0) (B' := K8) (fun d j q => rfl) (fun d j q => k8 d j (by omega))) (st_pre_refl _) (st_pre_refl _) hlv (h62 (N - 1) (by omega))
  have lk6 := E6.2.2.2.2.1.2.2
  have E9 : eg T n M G0 c0 O N off voff ph cx cb F3 G i ls cs (w + 1) s nw ns np (1 :: c) t W L P Q (wq_up Hp 21 (w6 - 1) 0) K8 i6 ls6 cs6 w6 s6 nw6 ns6 np6 (1 :: c) := ⟨r9, c8, b9, PJ, ⟨E6.2.2.2.2.1.1, E6.2.2.2.2.1.2.1, ⟨fun l hl => ⟨(k8 62 l (by omega)).trans ((wq_up_cell (by decide)).trans (lk6.1 l hl).1), (k8 65 l (by omega)).trans ((wq_up_cell (by decide)).trans (lk6.1 l hl).2)⟩, fun x hx e6 he => (k8 e6 x (by omega)).trans ((wq_up_cell (by omega)).trans (lk6.2 x hx e6 he))⟩⟩, E6.2.2.2.2.2.1, n6⟩
  have f9 : rm_fr H6 (pm_em (wq_up Hp 21 (w6 - 1) 0) 47 0 0 0) := rm_fr_em (rm_fr_up fp (by decide) (fun z => absurd z (by decide)))
  have e10 := e_drop (cb := cb) (a := 0) (b := 0) (l := 0) r9 c8 b9 rfl n6
  have g10 := hgo _ (rgo_i h33 (by decide) e10.1.1.1 f9)
  exact Or.inl ⟨i6, w6 + 1, s6, nw6, ns6, np6, ls6, cs6, _, c, off, voff, ph, L, [], [], rgo_t g3 ⟨rm_trans g6.1 g10.1, rm_fr_trans g6.2 g10.2⟩, ge_eg (eg_t E3 (eg_t E9 e10 hq3) h62) hbo, lo_refl rfl, ⟨by omega, by omega, by omega, by omega, by omega⟩, by omega⟩
end
