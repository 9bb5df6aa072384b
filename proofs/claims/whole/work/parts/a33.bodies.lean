/-! ===== a33: a body, given its block (wip/whole2/lawa33.py) ===== -/
theorem pj_cs {ls cs ms : List (List Nat)} {lv : Nat → Prop} {f : Nat} {cb : List Nat} {A B A' B' : wq_F} {w s nw ns m w' s' nw' ns' m' : Nat} {c c' Jr Jc : List Nat} (h : pj ls cs lv f cb A B w s nw ns m c A' B' w' s' nw' ns' m' c' Jr Jc) (hc : st_pre cs ms) : pj ls ms lv f cb A B w s nw ns m c A' B' w' s' nw' ns' m' c' Jr Jc := ⟨h.1, h.2.1, h.2.2.1, h.2.2.2.1, fun H J nm X wb sb a1 a2 a3 a4 a5 a6 => h.2.2.2.2 H J nm X wb sb a1 a2 (nmr_up a3 (st_pre_refl _) hc) a4 a5 a6⟩
section
variable {nn : Nat} {T : Nat → Nat} {n M O : Nat} {G0 : wq_F} {c0 : List (List Nat)} {i t w s nw ns np N : Nat} {off voff ph : Nat → Nat} {cx : Nat → List Nat} {c cb : List Nat} {W : List (Nat × Nat × Nat × Nat)} {L : List (Nat × Nat)} {P Q : List (Nat × Nat × Nat)} {ls cs : List (List Nat)} {F G : wq_F}

/-- a body behind its block -/
theorem body_fin {D i3 v3 i6 w6 s6 nw6 ns6 np6 : Nat} {oo vv ph1 off6 voff6 ph6 : Nat → Nat} {ls1 ms3 ls6 ms6 : List (List Nat)} {c6' : List Nat} {L6 : List (Nat × Nat)} {Jr Jc : List Nat} {H4 K5 H5 K6 : wq_F} (hM : tk_M T n M) (hn : 10000 < nn) (hc0 : c0.length ≤ 1400) (hO : O ≤ 20000) (hz : 6310 ≤ zz D ∧ zz D < 9800 ∧ zz (D + 1) + 110 = zz D) (hb : bz N off voff ph cx c np F ls G cs) (hok : ∀ l, l < N → okj (G 65 l)) (m5 : np ≤ 50) (hnp : np < 50) (hNN : N < 24) (mb : w ≤ 9200 ∧ s ≤ 6100 ∧ nw ≤ 1600 ∧ ns ≤ 1600 ∧ hg c ≤ 5000 ∧ W.length ≤ 500 ∧ P.length ≤ 440 ∧ Q.length ≤ 440) (mi : i + 1 ≤ i3 ∧ w ≤ 6 * i + 40 ∧ s ≤ 4 * i + 40 ∧ nw ≤ i ∧ ns ≤ i) (hLN : ∀ e ∈ L, e.2 < N)
    (g4 : rm_to nn F H4 ∧ rm_fr F H4) (oL : ∀ l, l ≤ N → oo l = off l) (vL : ∀ l, l ≤ N → vv l = voff l) (oI : off N ≤ oo (N + 1)) (vI : voff N ≤ vv (N + 1)) (hp1 : ∀ k, k < voff N → ph1 k = ph k) (s2 : st_sf ls ls1) (q34 : st_pre cs ms3) (hv3 : v3 ≤ 50)
    (xA : ∀ d j, 8 < d → ¬ (12 ≤ d ∧ d ≤ 17 ∧ j = np) → ¬ (20 ≤ d ∧ d ≤ 23 ∧ (j = w ∨ j = w + 1)) → ¬ (25 ≤ d ∧ d ≤ 28) → ¬ (29 ≤ d ∧ d ≤ 32) → H4 d j = F d j) (yW : H4 20 w = 21 ∧ H4 20 (w + 1) = 0 ∧ H4 12 np = w + 1 ∧ H4 13 np = v3)
    (xB : ∀ d j, 10 < d → ¬ (17 ≤ d ∧ d ≤ 22 ∧ j = np) → ¬ d = 11 → ¬ (12 ≤ d ∧ d ≤ 15 ∧ (j = s ∨ j = s + 1)) → ¬ (62 ≤ d ∧ d ≤ 65 ∧ j = N) → ¬ (d = 59) → ¬ d = 57 → ¬ (d = 60 ∧ off N ≤ j) → ¬ (d = 61 ∧ off N ≤ j) → (17 ≤ d ∧ d ≤ 23) ∨ (12 ≤ d ∧ d ≤ 15 ∧ j < s + 1) ∨ (d = 16 ∧ j < ns) ∨ d = 62 ∨ d = 65 ∨ d = 61 ∨ d = 60 → K5 d j = G d j) (yK : K5 12 s = 18 ∧ K5 13 s = np ∧ K5 14 s = 4294967295 ∧ K5 12 (s + 1) = 0) (yP5 : K5 17 np = s + 1 ∧ K5 18 np = v3) (k62N : K5 62 N = np)
    (g6 : rm_to nn H4 H5 ∧ rm_fr H4 H5) (ge6 : ge T n M G0 c0 O (N + 1) (cxf cx N c) [] H4 K5 i3 ls1 ms3 (w + 1 + 1) (s + 1 + 1) nw ns (np + 1) (lcs 0 v3) oo vv ph1 L [] [] t ((20, w, np, 0) :: W) P Q H5 K6 i6 ls6 ms6 w6 s6 nw6 ns6 np6 c6' off6 voff6 ph6 L6 Jr Jc) (rt6 : rt0 i3 (w + 1 + 1) (s + 1 + 1) nw ns i6 w6 s6 nw6 ns6) : wok ((dk_84 K6).bind fun y37 => (dk_78 y37.2 20 y37.1 0 0).bind fun y41 => (dk_110 nn y41.2 15).bind fun y45 => (dk_160 y45.2).bind fun y49 => (dk_159 nn y49.2 s).bind fun y53 => (dk_163 y53.2 1).bind fun y57 => some (0, y57.2)) (fun _ K => (∃ i' w' s' nw' ns' np' ls' cs' H, (rm_to nn F H ∧ rm_fr F H) ∧ eg T n M G0 c0 O N off voff ph cx cb F G i ls cs w s nw ns np c t W L P Q H K i' ls' cs' w' s' nw' ns' np' (0 :: c) ∧ rts i w s nw ns i' w' s' nw' ns' ∧ H 0 64 = 4294967295) ∨ ∃ e p, rm_out nn e p F ∧ sx T n G0 c0 O e p N (zz D + 55) K) := by
  have hM1 := hM.1
  have hN := hb.1.1
  have h62 := hb.2.2.2.2.2.1
  have k62 : ∀ l, l < N → K5 62 l = G 62 l := fun l hl => xB 62 l (by omega) (by omega) (by omega) (by omega) (by omega) (by omega) (by omega) (by omega) (by omega) (by omega)
  obtain ⟨t1, t2, t3, t4, t5⟩ := rt6
  obtain ⟨r6, c7, b7, pj6, ⟨ss6, sp6, gk6⟩, ⟨ii6, np6b⟩, ve6, bo6, lt6⟩ := ge6
  have eL : L6 = L := lt6.2.2 hLN
  subst eL
  have eJ : Jr = [] ∧ Jc = [] := by
    rcases bo6.2 with ⟨x, L0, e, _⟩ | ⟨_, _, e1, e2⟩
    · exact absurd (hLN (x, N) (by rw [e]; exact List.mem_cons_self ..)) (Nat.lt_irrefl _)
    · rw [List.append_nil] at e1 e2
      exact ⟨e1, e2⟩
  obtain ⟨rfl, rfl⟩ := eJ
  obtain ⟨l61, l62, l63, l64, l65⟩ := pj6.1
  have i6M := r6.1.2.2.1
  have rp := ry_pop r6
  have hgo6 := fun H => ry_go (nn := nn) (H := H) r6 (by show W.length < 4000; omega)
  have hba6 := fun k p => ry_ba (nn := nn) (k := k) (p := p) r6 (by show W.length < 4000; omega)
  have h34 : dk_32 nn (wq_up H5 0 46 W.length) (20, w, np, 0).1 (20, w, np, 0).2.1 (20, w, np, 0).2.2.1 (20, w, np, 0).2.2.2 = dk_255 (wq_up H5 0 46 W.length) w np := by
    show dk_32 nn (wq_up H5 0 46 W.length) 20 w np 0 = _
    rw [dk32_20, od_bI]
  have b7p : bz (N + 1) off6 voff6 ph6 (cxf cx N c) c6' np6 (wq_up H5 0 46 W.length) ls6 K6 ms6 := bz_fu b7 (by omega)
  have fp : rm_fr H5 (wq_up H5 0 46 W.length) := rm_fr_up (rm_fr_refl _) (by decide) (by decide)
  have xp : ∀ d j, ¬ d = 0 → wq_up H5 0 46 W.length d j = H5 d j := fun d j q => wq_up_cell q
  generalize dk_32 nn (wq_up H5 0 46 W.length) (20, w, np, 0).1 (20, w, np, 0).2.1 (20, w, np, 0).2.2.1 (20, w, np, 0).2.2.2 = m2 at *
  generalize wq_up H5 0 46 W.length = H5p at *
  rw [cy_84 c7 b7p, od_bS]
  dsimp only
  refine wok_b (cy_78 (op := 20) (a := hg c6') (b := 0) (ln := 0) c7 b7p (by omega) (okj_p (by decide))) fun r K7 h7 => ?_
  dsimp only
  obtain ⟨_, c8, b8, i7, q7, _⟩ := h7
  refine wok_b (bt_wd (x := 6) (B := 6210) hM rp c8 b8 (by decide) (by omega) hc0 hO (by omega) (by omega) np6b (by omega)) fun r K8 h8 => ?_
  dsimp only
  rcases h8 with ⟨iM8, e8, ms8, c9, b9, g8, q8⟩ | ⟨kk, e8, hx⟩
  rotate_left
  · have e255 : dk_255 H5p w np = some (0, pm_f H5p kk (tk_pos T n i6)) := by
      unfold dk_255
      rw [e8, od_bS]
      dsimp only
      rw [if_pos rfl]
    have ho := hba6 _ _ (rba_f (h34.trans e255) fp (by rw [rp.2.1.2.1]; omega))
    refine wok_b (sx_160 hx hN.1) fun r K h => ?_
    dsimp only
    refine wok_b (sx_159 h (by omega) (okj_p (by omega)) hn) fun r K h => ?_
    dsimp only
    exact wok_b (sx_163 h) fun r K h => wok_r (Or.inr ⟨_, _, rm_to_out g4.1 g4.2 (rm_to_out g6.1 g6.2 ho), sx_le h (by omega)⟩)
  have r9 := ry_nx rp iM8
  have b9f : bz (N + 1) off6 voff6 ph6 (cxf cx N c) c6' np6 (wq_up H5p 0 25 (i6 + 1)) ls6 K8 ms8 := bz_fu b9 (by omega)
  have f9 : rm_fr H5 (wq_up H5p 0 25 (i6 + 1)) := rm_fr_up fp (by decide) (by decide)
  have x9 : ∀ d j, ¬ d = 0 → wq_up H5p 0 25 (i6 + 1) d j = H5 d j := fun d j q => (wq_up_cell q).trans (xp d j q)
  have h53 : wq_up H5p 0 25 (i6 + 1) 0 53 = N := by
    have y := b9f.1.1.2.2.1
    omega
  obtain ⟨H7, d7, r10, f10, x7, y7, z7⟩ := re_close (a0 := w) (a1 := np) e8 r9 h53 ⟨hN.1, by omega⟩ (by omega) (by omega)
  generalize wq_up H5p 0 25 (i6 + 1) = H6 at *
  have g7 := hgo6 _ (rgo_i (h34.trans d7) (by decide) r10.1.1 (rm_fr_trans f9 f10))
  obtain ⟨K9, e160, c10, x160, k98, k93⟩ := ce_160 c9 ⟨hN.1, by omega⟩
  rw [e160, od_bS]
  dsimp only
  have s14 : K9 14 s = 4294967295 := by
    rw [x160 14 s (by omega), g8 14 s (by omega) (by omega) (by omega), q7 14 s (by omega), pj6.2.2.1.1 14 s (by decide) (by decide) (by omega)]
    exact yK.2.2.1
  have hj : jc (K9 14) s 10000 [s] := ⟨rfl, by omega, by rw [s14]; exact ⟨by decide, by decide⟩⟩
  rw [dkS_159 hj hn, od_bS]
  dsimp only
  have h114 : K9 11 4 = s6 + 1 := c10.2.1.1
  rw [h114, dkS_163 (l := N - 1) (by rw [jl_ne (by omega)]; omega) (by omega), od_bS]
  -- the names of the level that is left
  have hcol : ∀ d, ¬ d = 0 → ¬ (20 ≤ d ∧ d ≤ 23) → H7 d = H6 d := fun d a b => funext fun j => x7 d j a (by omega) (by omega)
  have scb := b9f.1
  have b10 : bz N off voff ph cx c np6 H7 ls6 K9 ms8 := by
    refine bz_leave b9f hN.1 (fun l hl => ?_) (fun l hl => ?_) (fun k hk => ?_) (fun l hl => rfl) ⟨z7.1, ?_, fun d hd => hcol d (by omega) (by omega)⟩ ⟨k98, ?_, fun d hd => funext fun j => x160 d j (by omega)⟩ (fun l hl => x160 64 l (by omega))
    · rw [(ve6.1 l (by omega)).1, oL l hl]
    · rw [(ve6.1 l (by omega)).2, vL l hl]
    · rw [(ve6.1 N (by omega)).2, vL N (Nat.le_refl _)] at hk
      rw [ve6.2.2.2.1 k (by omega), hp1 k hk]
    · rw [z7.2.1]
      exact (scb.2.1 N (by omega)).2.2.2.1
    · rw [k93]
      exact (scb.2.1 N (by omega)).2.2.1
  have hcH := bz_hc b10
  have c11 : cy T n G0 c0 O (i6 + 1) ms8 (s6 + 1) ns6 np6 N Q (wq_up (jl_up K9 14 [s] (s6 + 1)) 64 (N - 1) ((jl_up K9 14 [s] (s6 + 1) 64 (N - 1) + 1) % 4294967296)) := cy_up (cy_jl c10 (okj_p (by omega))) (by unfold cy_n; omega)
  have b11 : bz N off voff ph cx (0 :: c) np6 H7 ls6 (wq_up (jl_up K9 14 [s] (s6 + 1)) 64 (N - 1) ((jl_up K9 14 [s] (s6 + 1) 64 (N - 1) + 1) % 4294967296)) ms8 := by
    have bj := bz_G b10 (bzG_jl (J := [s]) (v := s6 + 1) (bzG_refl _)) (fun l _ => jl_ne (by omega))
    refine bz_hh bj ?_ (fun k _ _ h => cx_at_c h) (bz_c0 bj (by decide))
    rw [jl_ne (by omega), hcH, hg_0, Nat.mod_eq_of_lt (by omega)]
  have xK : ∀ d j, ¬ (d = 14 ∧ j = s) → ¬ (d = 64 ∧ j = N - 1) → wq_up (jl_up K9 14 [s] (s6 + 1)) 64 (N - 1) ((jl_up K9 14 [s] (s6 + 1) 64 (N - 1) + 1) % 4294967296) d j = K9 d j := fun d j a b => by
    rw [wq_up_ne b, jl_ne (fun z => a ⟨z.1, List.mem_singleton.mp z.2⟩)]
  have yK9 : wq_up (jl_up K9 14 [s] (s6 + 1)) 64 (N - 1) ((jl_up K9 14 [s] (s6 + 1) 64 (N - 1) + 1) % 4294967296) 14 s = s6 + 1 := by
    rw [wq_up_cell (by decide), jl_at (List.mem_singleton.mpr rfl)]
  generalize wq_up (jl_up K9 14 [s] (s6 + 1)) 64 (N - 1) ((jl_up K9 14 [s] (s6 + 1) 64 (N - 1) + 1) % 4294967296) = K11 at *
  -- memories compared
  have xH : ∀ d j, ¬ d = 0 → ¬ (20 ≤ d ∧ d ≤ 23 ∧ w6 ≤ j ∧ j ≤ w6 + 2) → ¬ (d = 21 ∧ j = w) → H7 d j = H5 d j := fun d j a b e => (x7 d j a b e).trans (x9 d j a)
  have xC : ∀ d j, 11 < d → ¬ d = 57 → ¬ d = 59 → ¬ d = 64 → ¬ (d = 14 ∧ j = s) → (17 ≤ d ∧ d ≤ 23) ∨ (12 ≤ d ∧ d ≤ 15 ∧ j < s6) ∨ (d = 16 ∧ j < ns6) ∨ d = 62 ∨ d = 65 ∨ d = 61 ∨ d = 60 → K11 d j = K6 d j := fun d j a b e g h i => by
    rw [xK d j h (by omega), x160 d j (by omega), g8 d j (by omega) (by omega) (by omega), q7 d j i]
  have xD : ∀ d, 12 ≤ d → d ≤ 15 → K11 d s6 = (if d = 12 then 20 else if d = 13 then hg c6' else 0) := fun d a b => by
    have e : K11 d s6 = K7 d s6 := by rw [xK d s6 (by omega) (by omega), x160 d s6 (by omega), g8 d s6 (by omega) (by omega) (by omega)]
    obtain ⟨z1, z2, z3, z4⟩ := i7
    rw [e]
    rcases (show d = 12 ∨ d = 13 ∨ d = 14 ∨ d = 15 by omega) with q | q | q | q
    · rw [q, z1]; rfl
    · rw [q, z2]; rfl
    · rw [q, z3]; rfl
    · rw [q, z4]; rfl
  have hlv : ∀ g, g < np → ¬ lvl N G g → ¬ lvl (N + 1) K5 g := fun g hg hl ⟨l, l1, l2⟩ => by
    by_cases q : l = N
    · rw [q, k62N] at l2
      omega
    · exact hl ⟨l, by omega, by rw [← k62 l (by omega)]; exact l2⟩
  have eN : N + 1 - 1 = N := Nat.add_sub_cancel N 1
  obtain ⟨pj1, ka6, kb6, pj4, sg6⟩ := pj6
  have hka : ka F H7 w nw np (lvl N G) := by
    refine ⟨fun d p a b e => ?_, fun k hk => ?_, fun g hg hl => ?_, fun g hg => ⟨?_, ?_, ?_⟩⟩
    · rw [xH d p (by omega) (by omega) (by omega), ka6.1 d p a b (by omega), xA d p (by omega) (by omega) (by omega) (by omega) (by omega)]
    · rw [xH 24 k (by omega) (by omega) (by omega), ka6.2.1 k hk, xA 24 k (by omega) (by omega) (by omega) (by omega) (by omega)]
    · obtain ⟨⟨u1, u2, u3, u4⟩, u5⟩ := ka6.2.2.1 g (by omega) (hlv g hg hl)
      refine ⟨⟨?_, ?_, ?_, ?_⟩, fun k hk => ⟨?_, ?_⟩⟩
      · rw [xH 12 g (by omega) (by omega) (by omega), u1, xA 12 g (by omega) (by omega) (by omega) (by omega) (by omega)]
      · rw [xH 13 g (by omega) (by omega) (by omega), u2, xA 13 g (by omega) (by omega) (by omega) (by omega) (by omega)]
      · rw [xH 15 g (by omega) (by omega) (by omega), u3, xA 15 g (by omega) (by omega) (by omega) (by omega) (by omega)]
      · rw [xH 16 g (by omega) (by omega) (by omega), u4, xA 16 g (by omega) (by omega) (by omega) (by omega) (by omega)]
      · rw [xH 18 _ (by omega) (by omega) (by omega), (u5 k hk).1, xA 18 _ (by omega) (by omega) (by omega) (by omega) (by omega)]
      · rw [xH 19 _ (by omega) (by omega) (by omega), (u5 k hk).2, xA 19 _ (by omega) (by omega) (by omega) (by omega) (by omega)]
    · rw [xH 15 g (by omega) (by omega) (by omega), ← xA 15 g (by omega) (by omega) (by omega) (by omega) (by omega)]
      exact (ka6.2.2.2 g (by omega)).1
    · rw [xH 12 g (by omega) (by omega) (by omega), (ka6.2.2.2 g (by omega)).2.1, xA 12 g (by omega) (by omega) (by omega) (by omega) (by omega)]
    · rw [xH 13 g (by omega) (by omega) (by omega), (ka6.2.2.2 g (by omega)).2.2, xA 13 g (by omega) (by omega) (by omega) (by omega) (by omega)]
  have xBC : ∀ d j, (17 ≤ d ∧ d ≤ 23 ∧ ¬ (d ≤ 22 ∧ j = np)) → K5 d j = G d j := fun d j q => xB d j (by omega) (by omega) (by omega) (by omega) (by omega) (by omega) (by omega) (by omega) (by omega) (by omega)
  have xCC : ∀ d j, 17 ≤ d ∧ d ≤ 23 → K11 d j = K6 d j := fun d j q => xC d j (by omega) (by omega) (by omega) (by omega) (by omega) (by omega)
  have hkb : kb G K11 s ns np (lvl N G) := by
    refine ⟨fun d p a b e => ?_, fun k hk => ?_, fun g hg hl => ?_, fun g hg => ⟨?_, ?_, ?_⟩⟩
    · rw [xC d p (by omega) (by omega) (by omega) (by omega) (by omega) (by omega), kb6.1 d p a b (by omega), xB d p (by omega) (by omega) (by omega) (by omega) (by omega) (by omega) (by omega) (by omega) (by omega) (by omega)]
    · rw [xC 16 k (by omega) (by omega) (by omega) (by omega) (by omega) (by omega), kb6.2.1 k hk, xB 16 k (by omega) (by omega) (by omega) (by omega) (by omega) (by omega) (by omega) (by omega) (by omega) (by omega)]
    · obtain ⟨⟨u1, u2, u3, u4⟩, u5⟩ := kb6.2.2.1 g (by omega) (hlv g hg hl)
      refine ⟨⟨?_, ?_, ?_, ?_⟩, fun k hk => ?_⟩
      · rw [xCC 17 g (by omega), u1, xBC 17 g (by omega)]
      · rw [xCC 18 g (by omega), u2, xBC 18 g (by omega)]
      · rw [xCC 20 g (by omega), u3, xBC 20 g (by omega)]
      · rw [xCC 22 g (by omega), u4, xBC 22 g (by omega)]
      · rw [xCC 23 _ (by omega), u5 k hk, xBC 23 _ (by omega)]
    · rw [xCC 17 g (by omega), (kb6.2.2.2 g (by omega)).1, xBC 17 g (by omega)]
    · rw [xCC 18 g (by omega), (kb6.2.2.2 g (by omega)).2.1, xBC 18 g (by omega)]
    · rw [xCC 19 g (by omega), ← xBC 19 g (by omega)]
      exact (kb6.2.2.2 g (by omega)).2.2
  rw [eN] at sg6
  rw [k62N] at sg6
  have hin : pj ls6 ms8 (lvl (N + 1) K5) np [] H4 K5 (w + 2) (s + 2) nw ns (np + 1) (lcs 0 v3) H5 K6 w6 s6 nw6 ns6 np6 c6' [] [] := pj_cs (cs := ms6) ⟨pj1, ka6, kb6, pj4, sg6⟩ q8
  have y18 : K11 18 np = v3 := by
    rw [xCC 18 np (by omega), (kb6.2.2.2 np (by omega)).2.1]
    exact yP5.2
  have h62N : K8 62 N = np := by
    rw [g8 62 N (by omega) (by omega) (by omega), q7 62 N (by omega), gk6.1 N (by omega)]
    exact k62N
  have g62f : ∀ l, l < N → K8 62 l = G 62 l := fun l hl => by
    rw [g8 62 l (by omega) (by omega) (by omega), q7 62 l (by omega), gk6.1 l (by omega)]
    exact k62 l hl
  have cpl := cp_len b9f.2.1 (l := N) (by omega)
  rw [h62N] at cpl
  have c16 := (b9f.2.2.2.2.2.2.1 N (by omega)).1
  rw [h62N] at c16
  have kk8 : ∀ d j, (17 ≤ d ∧ d ≤ 23) ∨ d = 66 ∨ d = 62 ∨ d = 61 ∨ d = 60 → K11 d j = K8 d j := fun d j q => by
    rw [xK d j (by omega) (by omega), x160 d j (by omega)]
  have hh6 : ∀ d j, ¬ d = 0 → ¬ (20 ≤ d ∧ d ≤ 23) → H7 d j = H6 d j := fun d j a b => x7 d j a (by omega) (by omega)
  have hcp : ∀ j, j < H7 15 np → (H7 18 (30 * np + j) = 1 ∧ cx_at c (K11 23 (30 * np + j)) (H7 19 (30 * np + j))) ∨ (H7 18 (30 * np + j) = 0 ∧ H7 19 (30 * np + j) < H7 15 (G 62 (N - 1)) ∧ K11 23 (30 * np + j) = 4294967295 - H7 19 (30 * np + j)) := fun j hj => by
    obtain ⟨a1, a2, a3, a4⟩ := b9f.2.1.2 (N - 1) (by omega)
    rw [show N - 1 + 1 = N by omega, h62N] at a1 a2 a4
    rw [hh6 15 np (by omega) (by omega), a1] at hj
    obtain ⟨d1, d2, d3⟩ := a4 j hj
    rw [hh6 18 _ (by omega) (by omega), hh6 19 _ (by omega) (by omega), kk8 23 _ (by omega), hh6 15 _ (by omega) (by omega)]
    cases hv : sc_vc off6 K8 (N - 1) (K8 66 (30 * np + j)) with
    | some x =>
      obtain ⟨k0, u1, u2, u3, u4, u5, u6⟩ := d2 x hv
      refine Or.inl ⟨u4, ?_⟩
      have z := b9f.2.2.2.2.1 (N - 1) k0 (by omega) u1 (by rw [show N - 1 + 1 = N by omega]; exact u2)
      rw [cxf_f (by omega), cxf_t (by omega)] at z
      rw [u5, u6, ← u3]
      exact z
    | none =>
      obtain ⟨u1, u2, u3, u4, u5⟩ := d3 hv
      refine Or.inr ⟨u2, ?_, u5⟩
      have z := (cp_len b9f.2.1 (l := N - 1) (by omega)).1
      rw [g62f (N - 1) (by omega)] at z u3
      rw [z]
      exact u3
  have PJ := pj_fun (f := G 62 (N - 1)) (cb := cb) (A := F) (B := G) (A' := H7) (B' := K11) (w := w) (s := s) (np := np) (c := c) hin hka hkb
    ⟨?_, y7.2.2.2.2, ?_, y7.1, y7.2.1, y7.2.2.1, y7.2.2.2.1⟩
    ⟨?_, ?_, yK9, ?_, xD 12 (by decide) (by decide), xD 13 (by decide) (by decide)⟩
    (fun d j a b e g => xH d j (by omega) (by omega) (by omega)) (fun k a b => xH 24 k (by omega) (by omega) (by omega)) (fun g a b => ⟨⟨xH 12 g (by omega) (by omega) (by omega), xH 13 g (by omega) (by omega) (by omega), xH 15 g (by omega) (by omega) (by omega), xH 16 g (by omega) (by omega) (by omega)⟩, fun k hk => ⟨xH 18 _ (by omega) (by omega) (by omega), xH 19 _ (by omega) (by omega) (by omega)⟩⟩) (by rw [xH 15 np (by omega) (by omega) (by omega)]; exact Nat.le_refl _)
    (fun d j a b e g => xC d j (by omega) (by omega) (by omega) (by omega) (by omega) (by omega)) (fun k a b => xC 16 k (by omega) (by omega) (by omega) (by omega) (by omega) (by omega)) (fun g a b => ⟨⟨xCC 17 g (by omega), xCC 18 g (by omega), xCC 20 g (by omega), xCC 22 g (by omega)⟩, fun k hk => xCC 23 _ (by omega)⟩)
    ⟨hnp, ?_, ?_, ?_, ?_, ?_, ?_, ?_⟩ (by rw [y18]) hcp
  · refine wok_r (Or.inl ⟨i6 + 1, w6 + 1 + 1 + 1, s6 + 1, nw6, ns6, np6, ls6, ms8, H7, ⟨rm_trans g4.1 (rm_trans g6.1 g7.1), rm_fr_trans g4.2 (rm_fr_trans g6.2 g7.2)⟩, ⟨r10, c11, b11, PJ, ⟨st_sf_trans s2 ss6, st_pre_trans q34 (st_pre_trans sp6 q8), ⟨fun l hl => ⟨?_, ?_⟩, fun i hi e6 h6 => ?_⟩⟩, by omega, np6b⟩, ⟨by omega, by omega, by omega, by omega, by omega⟩, z7.2.2⟩)
    · show K11 62 l = G 62 l
      rw [kk8 62 l (by omega)]
      exact g62f l hl
    · show K11 65 l = G 65 l
      rw [xC 65 l (by omega) (by omega) (by omega) (by omega) (by omega) (by omega), gk6.2.1 l (by omega)]
      exact xB 65 l (by omega) (by omega) (by omega) (by omega) (by omega) (by omega) (by omega) (by omega) (by omega) (by omega)
    · show K11 e6 i = G e6 i
      rw [xC e6 i (by omega) (by omega) (by omega) (by omega) (by omega) (by omega), gk6.2.2 i (by omega) e6 h6]
      exact xB e6 i (by omega) (by omega) (by omega) (by omega) (by omega) (by omega) (by omega) (by omega) (by omega) (by omega)
  · rw [xH 20 w (by omega) (by omega) (by omega), ka6.1 20 w (by decide) (by decide) (by omega)]
    exact yW.1
  · rw [xH 20 (w + 1) (by omega) (by omega) (by omega), ka6.1 20 (w + 1) (by decide) (by decide) (by omega)]
    exact yW.2.1
  · rw [xC 12 s (by omega) (by omega) (by omega) (by omega) (by omega) (by omega), kb6.1 12 s (by decide) (by decide) (by omega)]
    exact yK.1
  · rw [xC 13 s (by omega) (by omega) (by omega) (by omega) (by omega) (by omega), kb6.1 13 s (by decide) (by decide) (by omega)]
    exact yK.2.1
  · rw [xC 12 (s + 1) (by omega) (by omega) (by omega) (by omega) (by omega) (by omega), kb6.1 12 (s + 1) (by decide) (by decide) (by omega)]
    exact yK.2.2.2
  · rw [xH 12 np (by omega) (by omega) (by omega), (ka6.2.2.2 np (by omega)).2.1]
    exact yW.2.2.1
  · rw [xCC 17 np (by omega), (kb6.2.2.2 np (by omega)).1]
    exact yP5.1
  · rw [y18, xH 13 np (by omega) (by omega) (by omega), (ka6.2.2.2 np (by omega)).2.2]
    exact yW.2.2.2
  · rw [y18]
    exact hv3
  · rw [hh6 16 np (by omega) (by omega), kk8 22 np (by omega)]
    exact c16
  · rw [hh6 15 np (by omega) (by omega), kk8 20 np (by omega)]
    exact cpl.1
  · rw [kk8 20 np (by omega)]
    exact cpl.2
theorem body_ok {D : Nat} (hM : tk_M T n M) (hn : 10000 < nn) (hc0 : c0.length ≤ 1400) (hO : O ≤ 20000) (hD : D ≤ 20) (hBk : Bk_ok nn T n M G0 c0 O (D + 1)) : B_ok nn T n M G0 c0 O D := by
  intro k sf i t w s nw ns np N off voff ph cx c cb W L P Q ls cs F G hk htD hsf hr hc hb hB hW hNt
  have hz : 6310 ≤ zz D ∧ zz D < 9800 ∧ zz (D + 1) + 110 = zz D := by unfold zz; omega
  by_cases hq : (tk_k T n i = 5 ∧ tk_V T n (tk_pos T n i) = 40) ∧ np < 50
  rotate_left
  · have m5 := hB.2.2.2.2.1
    refine wok_m (body_no hM hr hc hb hB (by omega) ?_) fun r K ⟨e, p, h1, h2⟩ => Or.inr ⟨e, p, h1, sx_le h2 (by omega)⟩
    by_cases q : tk_k T n i = 5 ∧ tk_V T n (tk_pos T n i) = 40
    · refine Or.inr ?_
      by_cases z : np < 50
      · exact absurd ⟨q, z⟩ hq
      · omega
    · exact Or.inl q
  obtain ⟨hq, hnp⟩ := hq
  obtain ⟨m1, m2, m3, m4, m5, m6, m7, m8, m9, m10, m11, m12⟩ := hB
  have hM1 := hM.1
  have hiM := hr.1.2.2.1
  obtain ⟨k, rfl⟩ : ∃ m, k = m + 1 := ⟨k - 1, by omega⟩
  have hN := hb.1.1
  have h62 := hb.2.2.2.2.2.1
  have h57 : G 57 4 = tk_ty T n (tk_pos T n i) := hc.1.2.1.1
  have h14 : G 11 14 = np := hc.2.1.2.2.1
  have r0 := ry_pop hr
  have hgo := fun H => ry_go (nn := nn) (H := H) hr (by show W.length < 4000; omega)
  have hba := fun k p => ry_ba (nn := nn) (k := k) (p := p) hr (by show W.length < 4000; omega)
  have h33 : dk_32 nn (wq_up F 0 46 W.length) (19, sf, 0, 0).1 (19, sf, 0, 0).2.1 (19, sf, 0, 0).2.2.1 (19, sf, 0, 0).2.2.2 = dk_253 nn (wq_up F 0 46 W.length) sf := by
    show dk_32 nn (wq_up F 0 46 W.length) 19 sf 0 0 = _
    rw [dk32_19, od_bI]
  have b0 : bz N off voff ph cx c np (wq_up F 0 46 W.length) ls G cs := bz_fu hb (by omega)
  have f0 : rm_fr F (wq_up F 0 46 W.length) := rm_fr_up (rm_fr_refl _) (by decide) (by decide)
  have x0 : ∀ d j, ¬ d = 0 → wq_up F 0 46 W.length d j = F d j := fun d j q => wq_up_cell q
  generalize dk_32 nn (wq_up F 0 46 W.length) (19, sf, 0, 0).1 (19, sf, 0, 0).2.1 (19, sf, 0, 0).2.2.1 (19, sf, 0, 0).2.2.2 = mm at *
  generalize wq_up F 0 46 W.length = F0 at *
  obtain ⟨H0, d1, r1, f1, x1, y20, y31, yP, y0⟩ := re_open (sf := sf) hM r0 hq hnp (N := N) b0.1.1.2.2.1 (by omega) (by omega)
  obtain ⟨K0, ce, c1, xG, zP, zI, zL⟩ := ce_open (ln := G 57 6) (g := fun v3 v4 E => if sf = 0 then dk_155_117 (dk_R nn k) nn E D v3 v4 (E 59 3) else (dk_166 E (E 56 12)).bind fun y20 => dk_155_117 (dk_R nn k) nn y20.2 D v3 v4 (E 59 3)) hc hnp ⟨hN.1, by omega⟩ (by omega)
  have b1 := bz_open (w := w) (s := s) b0 (by omega) hnp x1 y31 yP y0 xG zP zL
  have oI : at_N off (N + 1) (off N) (N + 1) = off N := at_N_is
  have oL : ∀ l, l ≤ N → at_N off (N + 1) (off N) l = off l := fun l hl => at_N_ne (by omega)
  have vI : at_N voff (N + 1) (voff N) (N + 1) = voff N := at_N_is
  have vL : ∀ l, l ≤ N → at_N voff (N + 1) (voff N) l = voff l := fun l hl => at_N_ne (by omega)
  generalize at_N off (N + 1) (off N) = o1 at *
  generalize at_N voff (N + 1) (voff N) = v1 at *
  have k593 : K0 59 3 = off N := b1.1.1.2.2.2.2.2.2.1.trans oI
  have h50 : F0 0 50 = voff N := b0.1.1.2.2.2.2.2.2.2.1
  have p1 : pq (N + 1) o1 v1 ph (cxf cx N c) (np + 1) np 0 H0 ls K0 cs := by
    refine ⟨?_, ⟨?_, zL.2.1, yP.2.1⟩, fun i a b => absurd b (by omega), fun j hj => absurd hj (Nat.not_lt_zero _)⟩
    · have hid : wq_up H0 0 50 (voff N) = H0 := by
        rw [← y0.2.trans h50]
        exact wq_up_id H0 0 50
      have e1 : at_N o1 (N + 1) (o1 (N + 1) + 0) = o1 := at_N_0
      rw [e1, vI, hid]
      exact b1
    · rw [vI, y0.2, h50, Nat.add_zero]
  obtain ⟨v, H1, K1, ls1, hv, d2, ce2, r2, c2, p2, f2, s2, xf2, xg2⟩ := body_self (sf := sf) (g1 := fun E => dk_253_175 nn E w np) (g2 := fun E => dk_155_117 (dk_R nn k) nn E D np s (K0 59 3)) hM r1 c1 p1 (by omega) hn hsf
  have hcl : dk_R nn (k + 1) 155 [D, sf] G = dk_155_117 (dk_R nn k) nn K1 D np s (K0 59 3) := by
    rw [dk_Re_155]
    unfold dk_155
    rw [if_pos (show G 57 4 = 51 from h57.trans ((tk_ty_sign (c := 40) (by decide)).mpr hq)), if_pos (by rw [h14]; exact (wd_slt (by omega) (by decide)).mpr hnp)]
    exact ce.trans ce2
  have hd0 : mm = dk_253_175 nn H1 w np := h33.trans (d1.trans d2)
  have ff1 : rm_fr F H1 := rm_fr_trans f0 (rm_fr_trans f1 f2)
  have hw1 : H1 0 41 = w + 1 + 1 := r2.2.1.2.1
  unfold dk_253_175 at hd0
  rw [hcl, k593]
  unfold dk_155_117
  rw [Nat.mod_eq_of_lt (show D + 1 < 4294967296 by omega)]
  refine wok_b (pa_77 (B := 6200) hM r2 c2 p2 (by omega) (by omega) hn hc0 hO (by omega) (by omega) (by omega) (by omega)) fun r K2 h2 => ?_
  dsimp only
  rcases h2 with ⟨iM, e2, ms2, r3, c3, p3, g3, q3⟩ | ⟨e2, hx⟩
  rotate_left
  · rw [e2, od_bS] at hd0
    dsimp only at hd0
    rw [if_pos rfl] at hd0
    have ho := hba _ _ (rba_f hd0 ff1 (by omega))
    refine wok_b (sx_156 hx hn) fun r K h => ?_
    dsimp only
    refine wok_b (sx_110 h (by decide)) fun r K h => ?_
    dsimp only
    exact wok_m (sx_b3 h hN.1 (by decide) (by omega) hn (by omega) (by omega) hnp) fun r K h => Or.inr ⟨_, _, ho, sx_le h (by omega)⟩
  rw [e2, od_bS] at hd0
  dsimp only at hd0
  rw [if_neg (by decide)] at hd0
  have ff2 : rm_fr F (wq_up H1 0 25 (i + 1)) := rm_fr_up ff1 (by decide) (by decide)
  have xf3 : pa_f np (v1 (N + 1)) H0 (wq_up H1 0 25 (i + 1)) := pa_f_t xf2 (pa_f_0 (by decide))
  have xg3 : pa_g np (o1 (N + 1)) K0 K2 := pa_g_t xg2 (pa_g_fr g3)
  generalize wq_up H1 0 25 (i + 1) = H2 at *
  refine wok_b2 (pa_all (B := 6200) hM hn hc0 hO (by omega) (by omega) (by omega) (by omega) (by omega) r3 c3 p3 hv) fun r K3 h3 => ?_
  dsimp only
  rcases h3 with ⟨i3, v3, ms3, H3, e3, r4, c4, p4, ⟨q4, ⟨i4, i4v⟩, f4⟩, xf4, xg4⟩ | ⟨e, p, H3, e3, f4, w4, hx⟩
  rotate_left
  · rw [e3, od_bS] at hd0
    dsimp only at hd0
    rw [if_pos rfl] at hd0
    have ho := hba _ _ (rba_f hd0 (rm_fr_trans ff2 f4) w4)
    exact wok_m (sx_b3 hx hN.1 (by decide) (by omega) hn (by omega) (by omega) hnp) fun r K h => Or.inr ⟨_, _, ho, sx_le h (by omega)⟩
  rw [e3, od_bS] at hd0
  dsimp only at hd0
  have h46 : wq_up H3 13 np (H3 14 np) 0 46 = W.length := (wq_up_cell (by decide)).trans r4.2.2.1.1
  rw [if_neg (by decide), od_g1 (by omega), od_g1 (by omega), od_upS, dkS_31 (by rw [h46]; omega), od_bS] at hd0
  dsimp only at hd0
  have r4b : ry T n M i3 ls1 t (w + 1 + 1) nw (np + 1) ((20, w, np, 0) :: W) L P (pm_la (wq_up H3 13 np (H3 14 np)) 20 w np 0) := ry_la (ry_up r4 (by unfold ry_n; omega))
  rw [dkS_31 (by rw [r4b.2.2.1.1]; show W.length + 1 < 4000; omega), od_bS] at hd0
  dsimp only at hd0
  have r5 : ry T n M i3 ls1 t (w + 1 + 1) nw (np + 1) ((0, 0, 0, 0) :: (20, w, np, 0) :: W) L P (pm_la (pm_la (wq_up H3 13 np (H3 14 np)) 20 w np 0) 0 0 0 0) := ry_la r4b
  have ff4 : rm_fr F (pm_la (pm_la (wq_up H3 13 np (H3 14 np)) 20 w np 0) 0 0 0 0) := rm_fr_la (rm_fr_la (rm_fr_up (rm_fr_trans ff2 f4) (by decide) (fun z => absurd z (by decide))))
  have x5 : ∀ d j, ¬ (d = 0 ∧ j = 46) → ¬ (25 ≤ d ∧ d ≤ 28) → ¬ (d = 13 ∧ j = np) → pm_la (pm_la (wq_up H3 13 np (H3 14 np)) 20 w np 0) 0 0 0 0 d j = H3 d j := fun d j a b e => by
    rw [pm_la_ne (by omega) a, pm_la_ne (by omega) a, wq_up_ne e]
  have y13 : pm_la (pm_la (wq_up H3 13 np (H3 14 np)) 20 w np 0) 0 0 0 0 13 np = H3 14 np := by
    rw [pm_la_ne (by omega) (by omega), pm_la_ne (by omega) (by omega), wq_up_same]
  generalize pm_la (pm_la (wq_up H3 13 np (H3 14 np)) 20 w np 0) 0 0 0 0 = H4 at *
  have g4 := hgo _ (rgo_i hd0 (by decide) r5.1.1 ff4)
  obtain ⟨⟨n1, n2, n3⟩, ⟨n4, n5⟩, n6, ⟨n7, n8⟩, ⟨n9, n10⟩, ⟨n11, n12⟩, n13⟩ := pq_n p4 (by omega)
  rw [oI] at n6 n11 n12 n13
  obtain ⟨pb, ⟨p5, p6, p7⟩, p8, p9⟩ := p4
  rw [oI] at p8
  rw [vI] at p5
  -- the class: the names are known, its parameters counted
  rw [dkS_167 (m := v3) n6 (by omega) (by omega) hn, od_bS]
  dsimp only
  rw [rv_ne (show ¬ ((59 : Nat) = 61 ∧ off N ≤ 3 ∧ 3 < off N + v3) by omega), n6, show (off N + v3 + (4294967296 - off N)) % 4294967296 = v3 by omega, od_letS, od_g1 hnp, od_upS, od_g1 hnp, wq_up_same]
  rw [dkS_162 (l := N) (by rw [wq_up_cell (by decide), rv_ne (by omega)]; omega) (by omega), od_bS]
  dsimp only
  have c5 : cy T n G0 c0 O i3 ms3 (s + 1) ns (np + 1) (N + 1) Q (wq_up (wq_up (rv_up K3 (off N) v3 0) 18 np v3) 64 N v3) := cy_up (cy_up (cy_x c4 (fun d j z _ => rv_ne (fun y => z (by unfold cy_n; omega))) (fun j hj => by rw [rv_ne (by omega)]; exact c4.2.2.2.2.1 j hj) (fun l hl => by rw [rv_ne (by omega)]; exact c4.2.2.2.2.2 l hl)) (by unfold cy_n; omega)) (by unfold cy_n; omega)
  have xE : ∀ d j, ¬ d = 61 → ¬ (d = 18 ∧ j = np) → ¬ (d = 64 ∧ j = N) → wq_up (wq_up (rv_up K3 (off N) v3 0) 18 np v3) 64 N v3 d j = K3 d j := fun d j a b e => by
    rw [wq_up_ne e, wq_up_ne b, rv_ne (fun z => a z.1)]
  have yE18 : wq_up (wq_up (rv_up K3 (off N) v3 0) 18 np v3) 64 N v3 18 np = v3 := by
    rw [wq_up_cell (by decide), wq_up_same]
  have yE64 : wq_up (wq_up (rv_up K3 (off N) v3 0) 18 np v3) 64 N v3 64 N = v3 := wq_up_same _ _ _ _
  have yE61 : (∀ j, j < v3 → wq_up (wq_up (rv_up K3 (off N) v3 0) 18 np v3) 64 N v3 61 (off N + j) = j) ∧ ∀ i, i < off N → wq_up (wq_up (rv_up K3 (off N) v3 0) 18 np v3) 64 N v3 61 i = K3 61 i := ⟨fun j hj => by rw [wq_up_cell (by decide), wq_up_cell (by decide), rv_at hj, Nat.zero_add], fun i hi => by rw [wq_up_cell (by decide), wq_up_cell (by decide), rv_ne (by omega)]⟩
  have bE : ∃ ph1, bz (N + 1) (at_N o1 (N + 1) (o1 (N + 1) + v3)) (at_N v1 (N + 1) (v1 (N + 1) + v3)) ph1 (cxf cx N c) (lcs 0 v3) (np + 1) H4 ls1 (wq_up (wq_up (rv_up K3 (off N) v3 0) 18 np v3) 64 N v3) ms3 ∧ (∀ k, k < v1 (N + 1) → ph1 k = ph k) ∧ ∀ j, j < v3 → ph1 (v1 (N + 1) + j) = off N + j := by
    have bg := bz_gu (d := 18) (j := np) (v := v3) pb (by omega)
    have b4 := pb.2.2.2.1
    refine bz_reveal (a := off N) (m := v3) (sl := 0) (nr := fun j => H3 29 (voff N + j)) (sr := fun j => j) (d := lcs 0 v3) bg ⟨?_, ?_⟩ (by omega) (fun i a b => ?_) (fun j hj => ?_) ⟨fun j hj => ?_, fun i j a b => by show ¬ i = j; omega, fun j k hj a b => ?_⟩ ⟨?_, ?_, fun d hd => ?_, fun k hk => ⟨?_, ?_⟩, fun j hj => ⟨?_, ?_⟩⟩ ⟨fun d h1 h2 => ?_, fun i hi => ?_, fun j hj => ?_⟩ (fun l hl => ?_) (fun k a b => ?_) (fun j hj => ?_) (fun e he => ?_)
    · show at_N o1 (N + 1) (o1 (N + 1) + v3) N ≤ off N
      rw [at_N_ne (by omega), oL N (Nat.le_refl _)]
      exact Nat.le_refl _
    · rw [at_N_is, oI]
    · rw [at_N_is, oI] at b
      rw [wq_up_cell (by decide)]
      exact p8 i a b
    · rw [wq_up_cell (by decide)]
      have y := p9 j hj
      rw [vI, oI] at y
      exact ⟨y.1, y.2.1, y.2.2.1⟩
    · show j < wq_up H3 0 50 (v1 (N + 1)) 14 (wq_up K3 18 np v3 62 N)
      have e62 : wq_up K3 18 np v3 62 N = np := (wq_up_cell (by decide)).trans p6
      rw [e62, wq_up_cell (by decide), p7]
      exact hj
    · exfalso
      have a' : v1 N ≤ k := a
      rw [vL N (Nat.le_refl _)] at a'
      rw [vI] at b
      omega
    · rw [wq_up_at (by decide), x5 0 53 (by omega) (by omega) (by omega)]
    · rw [x5 0 50 (by omega) (by omega) (by omega), vI]
      exact p5
    · exact funext fun j => (x5 d j (by omega) (by omega) (by omega)).trans (wq_up_cell (by omega)).symm
    · exact (x5 29 k (by omega) (by omega) (by omega)).trans (wq_up_cell (by decide)).symm
    · exact (x5 30 k (by omega) (by omega) (by omega)).trans (wq_up_cell (by decide)).symm
    · rw [vI]
      exact x5 29 _ (by omega) (by omega) (by omega)
    · have y := (p9 j hj).2.2.2
      rw [x5 30 _ (by omega) (by omega) (by omega)]
      exact y
    · funext j
      by_cases z : d = 18 ∧ j = np
      · rw [z.1, z.2, yE18, wq_up_same]
      · rw [xE d j h1 z (fun y => h2 y.1), wq_up_ne z]
    · rw [yE61.2 i hi, wq_up_cell (by decide)]
    · rw [yE61.1 j hj, Nat.zero_add]
    · by_cases q : l = N
      · rw [q, yE64, cxf_t rfl, hg_lcs]
      · rw [xE 64 l (by omega) (by omega) (by omega), cxf_f (by omega)]
        have y := b4 l hl
        rw [cxf_f (by omega)] at y
        exact y
    · exfalso
      have a' : v1 N ≤ k := a
      rw [vL N (Nat.le_refl _)] at a'
      rw [vI] at b
      omega
    · have y := cx_lcs (s := 0) hj
      rw [Nat.zero_add] at y ⊢
      exact y
    · have y := mem_lcs he
      show e < wq_up H3 0 50 (v1 (N + 1)) 14 (wq_up K3 18 np v3 62 N) + 5
      have e62 : wq_up K3 18 np v3 62 N = np := (wq_up_cell (by decide)).trans p6
      rw [e62, wq_up_cell (by decide), p7]
      omega
  obtain ⟨ph1, b5, hp1, hp2⟩ := bE
  have f0a : ∀ d j, 8 < d → ¬ (d = 14 ∧ j = np) → ¬ (d = 16 ∧ j = np) → ¬ ((d = 29 ∨ d = 30) ∧ voff N ≤ j) → H3 d j = H0 d j := fun d j a b e g => by
    have y := (pa_f_t xf3 xf4).1 d j a b e
    rw [vI] at y
    exact y g
  have g0a : ∀ d j, 10 < d → ¬ d = 57 → ¬ (d = 19 ∧ j = np) → ¬ (d = 22 ∧ j = np) → ¬ ((d = 60 ∨ d = 61) ∧ off N ≤ j) → ¬ (d = 59 ∧ j = 3) → K3 d j = K0 d j := fun d j a b e g h i => by
    have y := pa_g_t xg3 xg4 d j a b e g
    rw [oI] at y
    exact y h i
  generalize wq_up (wq_up (rv_up K3 (off N) v3 0) 18 np v3) 64 N v3 = E at *
  have hv3 : v3 ≤ 50 := n8
  refine wok_b (cy_78 (op := 0) (a := 0) (b := 0) (ln := 0) c5 b5 (by omega) (okj_p (by decide))) fun r K5 h5 => ?_
  dsimp only
  obtain ⟨_, c6, b6, i5, q5, _⟩ := h5
  have xK5 : ∀ d j, (17 ≤ d ∧ d ≤ 23) ∨ (12 ≤ d ∧ d ≤ 15 ∧ j < s + 1) ∨ (d = 16 ∧ j < ns) ∨ d = 62 ∨ d = 65 ∨ d = 61 ∨ d = 60 → K5 d j = E d j := fun d j q => q5 d j q
  have k65 : K5 65 N = 4294967294 := (xK5 65 N (by omega)).trans ((xE 65 N (by omega) (by omega) (by omega)).trans ((g0a 65 N (by omega) (by omega) (by omega) (by omega) (by omega) (by omega)).trans zL.2.2.2.2))
  have hLN : ∀ e ∈ L, e.2 < N := m9.2
  refine wok_b (hBk k i3 t (w + 1 + 1) (s + 1 + 1) nw ns (np + 1) (N + 1) _ _ ph1 (cxf cx N c) (lcs 0 v3) [] ((20, w, np, 0) :: W) L P Q ls1 ms3 H4 K5 [] [] (by omega) (by omega) r5 c6 b6 ⟨by omega, by omega, by omega, by omega, by omega, m6, by rw [hg_lcs]; omega, by show W.length + 1 ≤ _; omega, ⟨m9.1, fun e he => Nat.lt_succ_of_lt (hLN e he)⟩, m10, m11, by omega⟩ (by show W.length + 1 ≤ _; omega) ⟨fun e he => Nat.lt_succ_of_lt (hLN e he), Or.inr ⟨hLN, k65, rfl, rfl⟩⟩ (fun ⟨x, L0, e⟩ => absurd (hLN (x, N) (by rw [e]; exact List.mem_cons_self ..)) (Nat.lt_irrefl _)) fs_lcs) fun r K6 h6 => ?_
  dsimp only
  rcases h6 with ⟨i6, w6, s6, nw6, ns6, np6, ls6, ms6, H5, c6', off6, voff6, ph6, L6, Jr, Jc, g6, ge6, lo6, rt6⟩ | ⟨e, p, ho, hx⟩
  rotate_left
  · exact wok_m (sxy_b4 hx hN.1 (by omega) (by omega) hn) fun r K h => Or.inr ⟨e, p, rm_to_out g4.1 g4.2 ho, sx_le h (by omega)⟩
  refine body_fin (D := D) (v3 := v3) hM hn hc0 hO hz hb (fun l hl => hc.2.2.2.2.2 l hl) m5 hnp (by omega) ⟨by omega, by omega, by omega, by omega, by omega, by omega, by omega, by omega⟩ ⟨by omega, m1, m2, m3, m4⟩ hLN g4 (fun l hl => ?_) (fun l hl => ?_) (by rw [at_N_is, oI]; omega) (by rw [at_N_is, vI]; omega) (fun k hk => hp1 k (by rw [vI]; exact hk)) s2 (st_pre_trans q3 q4) hv3 ?_ ⟨?_, ?_, ?_, ?_⟩ ?_ ⟨?_, ?_, ?_, i5.1⟩ ⟨?_, ?_⟩ ((xK5 62 N (by omega)).trans ((xE 62 N (by omega) (by omega) (by omega)).trans p6)) g6 ge6 rt6.1
  · rw [at_N_ne (by omega), oL l hl]
  · rw [at_N_ne (by omega), vL l hl]
  · intro d j a b e g h
    rw [x5 d j (by omega) (by omega) (by omega), f0a d j a (by omega) (by omega) (by omega), x1 d j (by omega) (by omega) (by omega) (by omega), x0 d j (by omega)]
  · rw [x5 20 w (by omega) (by omega) (by omega), f0a 20 w (by omega) (by omega) (by omega) (by omega)]
    exact y20.1
  · rw [x5 20 (w + 1) (by omega) (by omega) (by omega), f0a 20 (w + 1) (by omega) (by omega) (by omega) (by omega)]
    exact y20.2
  · rw [x5 12 np (by omega) (by omega) (by omega), f0a 12 np (by omega) (by omega) (by omega) (by omega)]
    exact yP.1
  · rw [y13]
    exact p7
  · intro d j a b e g h i k l m o
    by_cases q : d = 61
    · rw [xK5 d j o, q, yE61.2 j (by omega), g0a 61 j (by omega) (by omega) (by omega) (by omega) (by omega) (by omega), xG 61 j (by omega) (by omega) (by omega) (by omega) (by omega)]
    · rw [xK5 d j o, xE d j q (fun z => b ⟨by rw [z.1]; decide, by rw [z.1]; decide, z.2⟩) (fun z => h ⟨by rw [z.1]; decide, by rw [z.1]; decide, z.2⟩), g0a d j a k (fun z => b ⟨by rw [z.1]; decide, by rw [z.1]; decide, z.2⟩) (fun z => b ⟨by rw [z.1]; decide, by rw [z.1]; decide, z.2⟩) (fun z => z.1.elim (fun y => l ⟨y, z.2⟩) (fun y => q y)) (fun z => i z.1), xG d j (fun z => b ⟨z.1.1, z.1.2, z.2⟩) (fun z => e z.1) (fun z => g ⟨z.1, z.2.1, Or.inl z.2.2⟩) (fun z => h ⟨z.1.1, z.1.2, z.2⟩) (fun z => i z.1)]
  · rw [xK5 12 s (by omega), xE 12 s (by omega) (by omega) (by omega), g0a 12 s (by omega) (by omega) (by omega) (by omega) (by omega) (by omega)]
    exact zI.1
  · rw [xK5 13 s (by omega), xE 13 s (by omega) (by omega) (by omega), g0a 13 s (by omega) (by omega) (by omega) (by omega) (by omega) (by omega)]
    exact zI.2.1
  · rw [xK5 14 s (by omega), xE 14 s (by omega) (by omega) (by omega), g0a 14 s (by omega) (by omega) (by omega) (by omega) (by omega) (by omega)]
    exact zI.2.2.1
  · rw [xK5 17 np (by omega), xE 17 np (by omega) (by omega) (by omega), g0a 17 np (by omega) (by omega) (by omega) (by omega) (by omega) (by omega)]
    exact zP.1
  · rw [xK5 18 np (by omega)]
    exact yE18
end
