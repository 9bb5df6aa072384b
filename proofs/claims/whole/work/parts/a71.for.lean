/-! ===== a71: for (wip/whole2/lawa71.py) ===== -/
/-- the reference behind all names of a loop -/
def frF (i0 v0 : Nat) (F : wq_F) (m : Nat) : Option (Nat × wq_F) := (dk_215 F).bind fun y6 => (dk_214 y6.2 11).bind fun y10 => if y10.1 = 0 then some (0, y10.2) else (dk_217 y10.2).bind fun y15 => if y15.1 = 0 then (dk_211 y15.2).bind fun y39 => some (y39.1, y39.2) else (dk_30 y15.2 14 0 0 0).bind fun y20 => od_let (((ev_oMul m 100) + v0) % 4294967296) fun y24 => (dk_31 y20.2 35 y6.1 i0 y24).bind fun y27 => (dk_31 y27.2 14 0 0 0).bind fun y31 => (dk_31 y31.2 3 0 0 0).bind fun y35 => some (1, y35.2)
/-- ... behind the first one -/
def frG (nn ln i0 : Nat) (v0 : Nat) (F : wq_F) : Option (Nat × wq_F) := (dk_36 F 61).bind fun y17 => if y17.1 = 0 then dk_233_85 nn nn y17.2 i0 v0 1 else (dk_212 y17.2).bind fun y22 => if y22.1 = 0 then some (0, y22.2) else (dk_31 y22.2 31 ln i0 v0).bind fun y27 => (dk_31 y27.2 3 0 0 0).bind fun y31 => some (1, y31.2)
theorem fr_s {nn ln : Nat} {F : wq_F} : dk_233 nn F ln = nmR F (frG nn ln (F 0 25)) := by
  unfold dk_233 nmR
  by_cases q : F 9 (F 0 25) = 1
  · rw [if_pos q, if_pos q]
    rfl
  · rw [if_neg q, if_neg q]
theorem fr_0 {nn i0 v0 g v : Nat} {F : wq_F} (h : dk_36 F 44 = some (0, F)) : dk_233_85 nn (g + 1) F i0 v0 v = frF i0 v0 F v := by
  show dk_233_85b nn (dk_233_85 nn g) F i0 v0 v = _
  unfold dk_233_85b
  rw [h, od_bS]
  dsimp only
  rw [if_pos rfl]
  rfl
theorem fr_1 {nn i0 v0 g v : Nat} {F : wq_F} (hv : v ≤ 50) (h : dk_36 F 44 = some (1, F)) : dk_233_85 nn (g + 1) F i0 v0 v = (dk_212 F).bind fun y43 => if y43.1 = 0 then some (0, y43.2) else nmR y43.2 fun _ F' => dk_233_85 nn g F' i0 v0 (v + 1) := by
  show dk_233_85b nn (dk_233_85 nn g) F i0 v0 v = _
  unfold dk_233_85b
  have e : (v + 1) % 4294967296 = v + 1 := by omega
  rw [h, od_bS]
  dsimp only
  rw [if_neg (by decide), e]
  rfl
section
variable {nn : Nat} {T : Nat → Nat} {n M O : Nat} {G0 : wq_F} {c0 : List (List Nat)} {i t w s nw ns np N : Nat} {off voff ph : Nat → Nat} {cx : Nat → List Nat} {c cb : List Nat} {W : List (Nat × Nat × Nat × Nat)} {L : List (Nat × Nat)} {P Q : List (Nat × Nat × Nat)} {ls cs : List (List Nat)} {F G : wq_F}

variable {Jr0 Jc0 : List Nat}
theorem sx_128R {k d a e p B : Nat} (hx : sx T n G0 c0 O e p N B G) (ha : a ≤ 1200) (hk : 4 ≤ k) (hn : 10000 < nn) (hB : B + 14 < 10000) : wok (dk_R nn k 128 [d, a] G) (fun _ K => sx T n G0 c0 O e p N (B + 11) K) := by
  obtain ⟨k, rfl⟩ : ∃ z, k = z + 1 := ⟨k - 1, by omega⟩
  rw [dk_Re_128]
  unfold dk_128
  refine wok_b (sx_164 hx) fun r1 K1 h1 => ?_
  refine wok_b (sx_84 h1.2) fun r2 K2 h2 => ?_
  have h3 := h2.2.2.1.2.2.2.2.2.2.1
  refine wok_l ?_
  dsimp only
  have hmn : okj ((K2 59 3 + (4294967296 - a)) % 4294967296) := by
    by_cases z : a ≤ K2 59 3
    · exact okj_p (by omega)
    · exact okj_n (by omega)
  refine wok_b (sx_110 h2 (by decide)) fun r K hx => ?_
  refine wok_b (sx_144 hx (by omega) hn) fun r K hx => ?_
  refine wok_b (sx_129 hx (by omega) (by decide)) fun r K3 hx => ?_
  have k4 : K3 11 4 < 10000 := Nat.lt_of_le_of_lt hx.2.2.1.1 (by omega)
  refine wok_b (sx_78 hx (by omega) (okj_p (by decide))) fun r K4 hx => ?_
  exact wok_m (sx_128 ha (by omega) hn (okj_p k4) h1.1 3 0 nn _ K4 (by omega) (by omega) (by omega) hmn hx.2) fun r K h => sx_le h (by omega)
set_option maxHeartbeats 4000000 in
theorem st_for {D k : Nat} (hM : tk_M T n M) (hn : 10000 < nn) (hc0 : c0.length ≤ 1400) (hO : O ≤ 20000) (hn2 : 14000 < nn) (hD : D ≤ 20) (hE : E_ok nn T n M G0 c0 O (D + 1)) (hBk : Bk_ok nn T n M G0 c0 O (D + 1)) (hkf : 20 * (22 - D) + 11 ≤ k) (htD : t = D) (hr : ry T n M i ls t w nw np W L P F) (hc : cy T n G0 c0 O i cs s ns np N Q G) (hb : bz N off voff ph cx c np F ls G cs) (hB : bnd i w s nw ns np t (hg c) W L P Q N) (hW : W.length ≤ 20 * t) (hNt : N ≤ t) (hL1 : L.length + 1 ≤ t) (hbo : bo N L F G w s Jr0 Jc0) (hib : ib N L cb c) (hfs : fs c) (hk : tk_k T n i = 4 ∧ tk_V T n (tk_pos T n i) = 8) : wok (dk_126 (dk_R nn k) nn G D) (fun _ K => (∃ i' w' s' nw' ns' np' ls' cs' H c' off' voff' ph' L' Jr Jc, rgo nn F ((dk_212 F).bind fun y24 => if y24.1 = 0 then some (0, y24.2) else (dk_233 nn y24.2 (1 + lc T (tk_pos T n i))).bind fun y68 => some (y68.1, y68.2)) H ∧ ge T n M G0 c0 O N cx cb F G i ls cs w s nw ns np c off voff ph L Jr0 Jc0 t W P Q H K i' ls' cs' w' s' nw' ns' np' c' off' voff' ph' L' Jr Jc ∧ lo N voff c voff' ph' c' K ∧ rts i w s nw ns i' (w' + 1) (s' + 1) nw' ns' ∧ hg c' + 2 * i ≤ hg c + 2 * i') ∨ ∃ e p, rba nn F ((dk_212 F).bind fun y24 => if y24.1 = 0 then some (0, y24.2) else (dk_233 nn y24.2 (1 + lc T (tk_pos T n i))).bind fun y68 => some (y68.1, y68.2)) e p ∧ sx T n G0 c0 O e p N (zz D + 98) K) := by
  have hz : 6310 ≤ zz D ∧ zz D < 9800 := by unfold zz; omega
  obtain ⟨m1, m2, m3, m4, m5, m6, m7, m8, m9, m10, m11, m12⟩ := hB
  have hM1 := hM.1
  have hiM := hr.1.2.2.1
  have hN := hb.1.1
  have h62 := hb.2.2.2.2.2.1
  have hw1 : F 0 41 = w := hr.2.1.2.1
  have h593 : G 59 3 = off N := hN.2.2.2.2.2.2.1
  have hln : G 57 6 = 1 + lc T (tk_pos T n i) := hc.1.2.1.2.2.1
  obtain ⟨_, ⟨_, n5⟩, _, ⟨n7, n8⟩, _, n11, _⟩ := nm_n hb m5 rfl
  have hfr := bz_fr hb
  have hoff : off (N - 1) ≤ off N ∧ voff (N - 1) ≤ voff N := by
    have y := hb.1.2.1 (N - 1) (by omega)
    rw [show N - 1 + 1 = N by omega] at y
    exact ⟨y.1, y.2.1⟩
  have hph : ∀ k, k < voff N → ph k < off N := fun k hk => (hb.1.2.2.1 k hk).1
  have h61 : ∀ k, voff (N - 1) ≤ k → k < voff N → G 61 (ph k) < hg c := fun k a b => by
    have y := hb.2.2.2.2.1 (N - 1) k (by omega) a (by rw [show N - 1 + 1 = N by omega]; exact b)
    rw [cxf_t (by omega)] at y
    exact cx_at_lt y
  obtain ⟨k', rfl⟩ : ∃ a, k = a + 1 := ⟨k - 1, by omega⟩
  obtain ⟨g0, hg0⟩ : ∃ a, nn = a + 1 := ⟨nn - 1, by omega⟩
  -- the stopped class
  have sxR : ∀ {e p B : Nat} {K : wq_F}, sx T n G0 c0 O e p N B K → B + 14 < 10000 → wok ((dk_R nn (k' + 1) 128 [D, off N] K).bind fun y18 => (dk_168 y18.2 (off N)).bind fun y22 => some (0, y22.2)) (fun _ K => sx T n G0 c0 O e p N (B + 11) K) := fun {e p B K} hx hB => by
    refine wok_b (sx_128R hx n11 (by omega) hn hB) fun r K h => ?_
    exact wok_b (sx_168 h n11) fun r K h => wok_r h
  have sxT : ∀ {e p B : Nat} {K : wq_F}, sx T n G0 c0 O e p N B K → B + 14 < 10000 → wok (if (K 57 4) = 49 then (dk_R nn (k' + 1) 127 [D, 1 + lc T (tk_pos T n i), off N] K).bind fun y26 => (dk_168 y26.2 (off N)).bind fun y30 => some (0, y30.2) else (dk_125 nn K).bind fun y14 => (dk_R nn (k' + 1) 128 [D, off N] y14.2).bind fun y18 => (dk_168 y18.2 (off N)).bind fun y22 => some (0, y22.2)) (fun _ K => sx T n G0 c0 O e p N (B + 11) K) := fun {e p B K} hx hB => by
    refine wok_f (sx_ne hx (by decide)) ?_
    refine wok_b (sx_125 hx hn) fun r K h => ?_
    exact sxR h hB
  unfold dk_126
  rw [h593, hln]
  refine wok_b (e_77 (cb := cb) (B := 6200) hM hr hc hb (by omega) (by omega) hn hc0 hO (by omega) (by omega) m5 (by omega)) fun r K1 h1 => ?_
  dsimp only
  rcases h1 with ⟨ms, iM, e1, E1, f1⟩ | ⟨e1, hx⟩
  rotate_left
  · have hd : ((dk_212 F).bind fun y24 => if y24.1 = 0 then some (0, y24.2) else (dk_233 nn y24.2 (1 + lc T (tk_pos T n i))).bind fun y68 => some (y68.1, y68.2)) = some (0, pm_f F 3 (tk_pos T n i)) := by
      rw [e1, od_bS]
      dsimp only
      rw [if_pos rfl]
    refine wok_b (sx_124 hx) fun r K h => ?_
    refine wok_b (sx_77 h) fun r K h => ?_
    exact wok_m (sxT h (by omega)) fun r K h => Or.inr ⟨_, _, rba_f hd (rm_fr_refl _) (by omega), sx_le h (by omega)⟩
  have ff1 : rm_fr F (wq_up F 0 25 (i + 1)) := rm_fr_up (rm_fr_refl _) (by decide) (by decide)
  have xf1 : nm_f (G 62 (N - 1)) F (wq_up F 0 25 (i + 1)) := fun d j a _ => wq_up_cell a
  have x14 : wq_up F 0 25 (i + 1) 14 (G 62 (N - 1)) = F 14 (G 62 (N - 1)) := wq_up_cell (by decide)
  have hd0 : ((dk_212 F).bind fun y24 => if y24.1 = 0 then some (0, y24.2) else (dk_233 nn y24.2 (1 + lc T (tk_pos T n i))).bind fun y68 => some (y68.1, y68.2)) = nmR (wq_up F 0 25 (i + 1)) (frG nn (1 + lc T (tk_pos T n i)) (i + 1)) := by
    rw [e1, od_bS]
    dsimp only
    rw [if_neg (by decide), od_bI, fr_s, show wq_up F 0 25 (i + 1) 0 25 = i + 1 from wq_up_same _ _ _ _]
  generalize ((dk_212 F).bind fun y24 => if y24.1 = 0 then some (0, y24.2) else (dk_233 nn y24.2 (1 + lc T (tk_pos T n i))).bind fun y68 => some (y68.1, y68.2)) = mm at *
  generalize wq_up F 0 25 (i + 1) = F1 at *
  have k162 : K1 62 (N - 1) = G 62 (N - 1) := (E1.2.2.2.2.1.2.2.1 (N - 1) (by omega)).1
  have xg1 : nm_g (G 62 (N - 1)) (off N) G K1 := nm_g_fr f1
  refine wok_bb (nm_any (g := frG nn (1 + lc T (tk_pos T n i)) (i + 1)) (B := 6210) hM hn hc0 hO E1.1 E1.2.1 E1.2.2.1 (by omega) (by omega) m5 (by omega) (by omega) k162) fun r2 K2 h2 => ?_
  dsimp only
  rcases h2 with ⟨ms2, H2, ⟨a1, a2, a3⟩, e2, r2', c2, b2, n2, s2, ff2, y2, xf2, xg2⟩ | ⟨kk, p, X, e2, ff2, w2, hx⟩
  rotate_left
  · exact wok_m (sxT hx (by omega)) fun r K h => Or.inr ⟨kk, p, rba_f (hd0.trans e2) (rm_fr_trans ff1 ff2) w2, sx_le h (by omega)⟩
  rw [e2] at hd0
  rw [x14] at hd0 a2 y2
  have i2M := r2'.1.2.2.1
  have xfA : nm_f (G 62 (N - 1)) F H2 := nm_f_t xf1 xf2
  have xgA : nm_g (G 62 (N - 1)) (off N) G K2 := nm_g_t xg1 xg2 (Nat.le_refl _)
  have ffA : rm_fr F H2 := rm_fr_trans ff1 ff2
  have p1 : nq T n N off voff ph cx c np (i + 1) 1 H2 ls K2 ms2 := ⟨b2, fun x a b => by rw [show x = off N by omega]; exact n2.1, fun j hj => by rw [show j = 0 by omega]; exact ⟨a1, n2.2⟩⟩
  have h57 : K2 57 4 = tk_ty T n (tk_pos T n (i + 1 + 1)) := c2.1.2.1.1
  have s49 := tk_ty_sign (T := T) (n := n) (p := tk_pos T n (i + 1 + 1)) (c := 61) (by decide)
  have spA : st_pre cs ms2 := st_pre_trans E1.2.2.2.2.1.2.1 s2
  -- the loop's names are gone: all of it
  have fin : ∀ {i3 m : Nat} {ms3 : List (List Nat)} {F3 K3 : wq_F} {r : Nat} {K : wq_F}, nq T n N off voff ph cx c np (i + 1) m F3 ls K3 ms3 → st_pre cs ms3 → nm_f (G 62 (N - 1)) F F3 → nm_g (G 62 (N - 1)) (off N) G K3 → F 14 (G 62 (N - 1)) ≤ F3 14 (G 62 (N - 1)) → i + 2 ≤ i3 → (∃ i' w' s' nw' ns' np' ls' cs' H K2, wq_up K 59 3 (off N) = K2 ∧ rgo nn F mm H ∧ eg T n M G0 c0 O N off voff ph cx cb F3 K3 i3 ls ms3 w s nw ns np c t W L P Q H K2 i' ls' cs' w' s' nw' ns' np' c ∧ (i3 < i' ∧ w' + 3 + 6 * i3 ≤ w + 6 * i' ∧ s' + 2 + 4 * i3 ≤ s + 4 * i' ∧ nw' + i3 ≤ nw + i' ∧ ns' + i3 ≤ ns + i')) ∨ (∃ e p, rba nn F mm e p ∧ sx T n G0 c0 O e p N (zz D + 40) K) → wok ((dk_168 K (off N)).bind fun y22 => some (0, y22.2)) (fun _ K => (∃ i' w' s' nw' ns' np' ls' cs' H c' off' voff' ph' L' Jr Jc, rgo nn F mm H ∧ ge T n M G0 c0 O N cx cb F G i ls cs w s nw ns np c off voff ph L Jr0 Jc0 t W P Q H K i' ls' cs' w' s' nw' ns' np' c' off' voff' ph' L' Jr Jc ∧ lo N voff c voff' ph' c' K ∧ rts i w s nw ns i' (w' + 1) (s' + 1) nw' ns' ∧ hg c' + 2 * i ≤ hg c + 2 * i') ∨ ∃ e p, rba nn F mm e p ∧ sx T n G0 c0 O e p N (zz D + 98) K) := fun {i3 m ms3 F3 K3 r K} hp sp xf xg h14x hi3 hK => by
    rcases hK with ⟨i', w', s', nw', ns', np', ls', cs', H, K4, eK, gH, ⟨q1, q2, q3, q4, ⟨q5, q6, q7⟩, q8, q9⟩, z1, z2, z3, z4, z5⟩ | ⟨e, p, ho, hx⟩
    rotate_left
    · exact wok_b (sx_168 hx n11) fun r K h => wok_r (Or.inr ⟨e, p, ho, sx_le h (by omega)⟩)
    unfold dk_168
    refine wok_b (wok_u (wok_r (A := fun _ Z => Z = K4) eK)) fun r Z hZ => wok_r ?_
    dsimp only
    rw [hZ]
    have k62 : ∀ l, K3 62 l = G 62 l := fun l => xg 62 l (by omega) (by omega) (by omega) (by omega) (by omega)
    obtain ⟨_, _, _, ⟨o7, o8⟩, _⟩ := nm_n hp.1 m5 (k62 (N - 1))
    have g19 : ∀ x, G 19 x ≤ K3 19 x := fun x => by
      by_cases z : x = G 62 (N - 1)
      · have y := (hp.1.2.2.1 (N - 1) (by omega)).1
        rw [k62 (N - 1)] at y
        rw [z]
        have y4 := h14x
        omega
      · exact Nat.le_of_eq (xg 19 x (by omega) (by omega) (by omega) (by omega) (by omega)).symm
    have P1 : pj ls ms3 (lvl N G) (G 62 (N - 1)) cb F G w s nw ns np c F3 K3 w s nw ns np c [] [] := pj_y (fun d j q => xf d j (by omega) (by omega)) (fun d j q => xg d j (by omega) (by omega) (by omega) (by omega) (by omega)) g19
    rw [lvl_eq (fun l _ => k62 l), k62 (N - 1)] at q4
    have hlv : ∀ g, np ≤ g → ¬ lvl N G g := fun g hg ⟨l, l1, l2⟩ => by have := h62 l l1; omega
    have PJ := pj_t P1 q4 q5.1 q6 hlv (h62 (N - 1) (by omega))
    have E : eg T n M G0 c0 O N off voff ph cx cb F G i ls cs w s nw ns np c t W L P Q H K4 i' ls' cs' w' s' nw' ns' np' c := ⟨q1, q2, q3, PJ, ⟨q5, st_pre_trans sp q6, ⟨fun l hl => ⟨(q7.1 l hl).1.trans (k62 l), (q7.1 l hl).2.trans (xg 65 l (by omega) (by omega) (by omega) (by omega) (by omega))⟩, fun x hx e6 h6 => (q7.2 x hx e6 h6).trans (xg e6 x (by omega) (by omega) (by omega) (by omega) (by omega))⟩⟩, by omega, q9⟩
    exact Or.inl ⟨i', w', s', nw', ns', np', ls', cs', H, c, off, voff, ph, L, [], [], gH, ge_eg E hbo, lo_refl rfl, ⟨by omega, by omega, by omega, by omega, by omega⟩, by omega⟩
  have k61 : ∀ {K : wq_F}, nm_g (G 62 (N - 1)) (off N) G K → ∀ k, voff (N - 1) ≤ k → k < voff N → K 61 (ph k) < hg c := fun {K} xg k a b => by
    have := hph k b
    rw [xg 61 _ (by omega) (by omega) (by omega) (by omega) (by omega)]
    exact h61 k a b
  have k62 : ∀ {K : wq_F}, nm_g (G 62 (N - 1)) (off N) G K → K 62 (N - 1) = G 62 (N - 1) := fun {K} xg => xg 62 _ (by omega) (by omega) (by omega) (by omega) (by omega)
  unfold frG at hd0
  rw [pm_isSign hM r2'.1 (by decide), od_bS] at hd0
  dsimp only at hd0
  rw [if_ck] at hd0
  by_cases q1 : tk_k T n (i + 1 + 1) = 5 ∧ tk_V T n (tk_pos T n (i + 1 + 1)) = 61
  · rw [if_pos q1] at hd0
    refine wok_t (h57.trans (s49.mpr q1)) ?_
    rw [dk_Re_127]
    refine wok_b (for_count (cb := cb) (FA := F) (mm := mm) (f := G 62 (N - 1)) (v0 := F 14 (G 62 (N - 1))) hM hn hc0 hO hn2 hD hE hBk (by omega) htD r2' c2 p1 rfl hoff hph (k61 xgA) (k62 xgA) y2 (by omega) hfr hfs (by omega) ⟨by omega, by omega, by omega, by omega, m5, m6, by omega, m8, m9, m10, m11, m12⟩ hW hL1 n11 q1 ffA hd0) fun r K hK => ?_
    exact fin (r := r) p1 spA xfA xgA (by omega) (by omega) hK
  · rw [if_neg q1] at hd0
    refine wok_f (fun z => q1 (s49.mp (h57.symm.trans z))) ?_
    unfold dk_125
    refine wok_b (nm_list (E := fun g F' v => dk_233_85 nn g F' (i + 1) (F 14 (G 62 (N - 1))) v) (FIN := frF (i + 1) (F 14 (G 62 (N - 1)))) (i0 := i + 1) (v0 := F 14 (G 62 (N - 1))) (B := 6220) (fun g F v h => fr_0 h) (fun g F v h1 h2 => fr_1 h1 h2) hM hn hc0 hO (by omega) (by omega) m5 (by omega) (by omega) 50 1 0 nn nn (i + 1 + 1) ms2 H2 K2 (by omega) (by omega) (by omega) (by omega) (by omega) r2' c2 p1 (k62 xgA) (by omega)) fun r3 K3 h3 => ?_
    dsimp only
    rcases h3 with ⟨i3, v, ms3, H3, e3, r3', c3, p3, y3, ⟨s3, i3e, v3, ff3⟩, xf3, xg3⟩ | ⟨e, p, X, e3, ff3, w3, hx⟩
    rotate_left
    · exact wok_m (sxR hx (by omega)) fun r K h => Or.inr ⟨e, p, rba_f (hd0.trans e3) (rm_fr_trans ffA ff3) w3, sx_le h (by omega)⟩
    have i3M := r3'.1.2.2.1
    have xfB : nm_f (G 62 (N - 1)) F H3 := nm_f_t xfA xf3
    have xgB : nm_g (G 62 (N - 1)) (off N) G K3 := nm_g_t xgA xg3 (Nat.le_refl _)
    obtain ⟨_, _, _, ⟨o7, o8⟩, _⟩ := nm_n p3.1 m5 (k62 xgB)
    rw [dk_Re_128]
    refine wok_b (for_row (cb := cb) (FA := F) (mm := mm) (f := G 62 (N - 1)) (i0 := i + 1) (v0 := F 14 (G 62 (N - 1))) (m := v) hM hn hc0 hO hn2 hD hE hBk (by omega) htD r3' c3 p3 (by omega) hoff hph (k61 xgB) (k62 xgB) y3 (by omega) hfr hfs (by omega) ⟨by omega, by omega, by omega, by omega, m5, m6, by omega, m8, m9, m10, m11, m12⟩ hW hL1 n11 (by omega) (rm_fr_trans ffA ff3) (hd0.trans e3)) fun r K hK => ?_
    exact fin (r := r) p3 (st_pre_trans spA s3) xfB xgB (by omega) (by omega) hK
end
