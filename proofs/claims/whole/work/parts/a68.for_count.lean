/-! ===== a68: a counting loop behind its name (wip/whole2/lawa68.py) ===== -/
section
variable {nn : Nat} {T : Nat → Nat} {n M O : Nat} {G0 : wq_F} {c0 : List (List Nat)} {i t w s nw ns np N : Nat} {off voff ph : Nat → Nat} {cx : Nat → List Nat} {c cb : List Nat} {W : List (Nat × Nat × Nat × Nat)} {L : List (Nat × Nat)} {P Q : List (Nat × Nat × Nat)} {ls cs : List (List Nat)} {F G : wq_F}

variable {f i0 m v0 : Nat}
theorem od_ba {m : Option (Nat × wq_F)} {f g : Nat × wq_F → Option (Nat × wq_F)} : ((m.bind f).bind g) = m.bind fun y => (f y).bind g := by
  cases m with
  | none => rfl
  | some y => rfl
set_option maxHeartbeats 4000000 in
theorem for_count {D k ln : Nat} {FA : wq_F} {mm : Option (Nat × wq_F)} (hM : tk_M T n M) (hn : 10000 < nn) (hc0 : c0.length ≤ 1400) (hO : O ≤ 20000) (hn2 : 14000 < nn) (hD : D ≤ 20) (hE : E_ok nn T n M G0 c0 O (D + 1)) (hBk : Bk_ok nn T n M G0 c0 O (D + 1)) (hkf : 20 * (22 - D) + 10 ≤ k) (htD : t = D) (hr : ry T n M i ls t w nw np W L P F) (hc : cy T n G0 c0 O i cs s ns np N Q G) (hp : nq T n N off voff ph cx c np i0 m F ls G cs) (hm1 : m = 1) (hoff : off (N - 1) ≤ off N ∧ voff (N - 1) ≤ voff N) (hph : ∀ k, k < voff N → ph k < off N) (h61c : ∀ k, voff (N - 1) ≤ k → k < voff N → G 61 (ph k) < hg c) (hf : G 62 (N - 1) = f) (h14 : F 14 f = v0 + m) (hv : v0 + m ≤ 50) (hc5 : ∀ e ∈ c, e < v0 + 5) (hfs : fs c) (hi0 : i0 + 2 * m ≤ M + 1) (hB : bnd i w s nw ns np t (hg c + m) W L P Q N) (hW : W.length ≤ 20 * t) (hL1 : L.length + 1 ≤ t) (hao : off N ≤ 1200) (hk : tk_k T n i = 5 ∧ tk_V T n (tk_pos T n i) = 61) (hfA : rm_fr FA F) (hd : mm = (dk_212 F).bind fun y22 => if y22.1 = 0 then some (0, y22.2) else (dk_31 y22.2 31 ln i0 v0).bind fun y27 => (dk_31 y27.2 3 0 0 0).bind fun y31 => some (1, y31.2)) : wok (dk_127 (dk_R nn k) nn G D ln (off N)) (fun _ K => (∃ i' w' s' nw' ns' np' ls' cs' H K2, wq_up K 59 3 (off N) = K2 ∧ rgo nn FA (mm) H ∧ eg T n M G0 c0 O N off voff ph cx cb F G i ls cs w s nw ns np c t W L P Q H K2 i' ls' cs' w' s' nw' ns' np' c ∧ (i < i' ∧ w' + 3 + 6 * i ≤ w + 6 * i' ∧ s' + 2 + 4 * i ≤ s + 4 * i' ∧ nw' + i ≤ nw + i' ∧ ns' + i ≤ ns + i')) ∨ ∃ e p, rba nn FA (mm) e p ∧ sx T n G0 c0 O e p N (zz D + 40) K) := by
  subst hm1
  have hz : 6310 ≤ zz D ∧ zz D < 9800 ∧ zz (D + 1) + 110 = zz D := by unfold zz; omega
  obtain ⟨m1, m2, m3, m4, m5, m6, m7, m8, m9, m10, m11, m12⟩ := hB
  have hM1 := hM.1
  have hiM := hr.1.2.2.1
  have hb := hp.1
  have hN := hb.1.1
  have h62 := hb.2.2.2.2.2.1
  have hw0 : F 0 41 = w := hr.2.1.2.1
  have hok : okj (G 65 (N - 1)) := hc.2.2.2.2.2 (N - 1) (by omega)
  have sxA : ∀ {e p B : Nat} {K : wq_F}, sx T n G0 c0 O e p N B K → B + 9 < 10000 → wok ((dk_111 nn K 59).bind fun y25 => if y25.1 = 0 then (dk_157 y25.2 18446744073709551617).bind fun y30 => (dk_112 y30.2 3 y30.1 ln 1).bind fun y34 => dk_127_82 (dk_R nn k) nn y34.2 D ln (off N) (G 65 (N - 1)) (hg c) else (dk_R nn k 148 [0, D + 1] y25.2).bind fun y38 => dk_127_82 (dk_R nn k) nn y38.2 D ln (off N) (G 65 (N - 1)) (hg c)) (fun _ K => sx T n G0 c0 O e p N (B + 7) K) := fun {e p B K} hx hB => by
    refine wok_b (sx_111 hx (by decide)) fun r K h => ?_
    refine wok_t h.1 ?_
    refine wok_b (sx_157 h.2) fun r K h => ?_
    refine wok_b (sx_112 h (by omega)) fun r K h => ?_
    exact wok_m (sx_82 h hao (by omega) hn (by omega) hok) fun r K h => sx_le h (by omega)
  have sxB : ∀ {e p B : Nat} {K : wq_F}, sx T n G0 c0 O e p N B K → B + 9 < 10000 → wok ((dk_110 nn K 59).bind fun y17 => (dk_R nn k 148 [0, D + 1] y17.2).bind fun y21 => (dk_111 nn y21.2 59).bind fun y25 => if y25.1 = 0 then (dk_157 y25.2 18446744073709551617).bind fun y30 => (dk_112 y30.2 3 y30.1 ln 1).bind fun y34 => dk_127_82 (dk_R nn k) nn y34.2 D ln (off N) (G 65 (N - 1)) (hg c) else (dk_R nn k 148 [0, D + 1] y25.2).bind fun y38 => dk_127_82 (dk_R nn k) nn y38.2 D ln (off N) (G 65 (N - 1)) (hg c)) (fun _ K => sx T n G0 c0 O e p N (B + 7) K) := fun {e p B K} hx hB => by
    refine wok_b (sx_110 hx (by decide)) fun r K h => ?_
    refine wok_b (sx_148 h (by omega)) fun r K h => ?_
    exact sxA h.2 hB
  unfold dk_127
  rw [cy_164 hc hb, od_bS]
  dsimp only
  rw [cy_84 hc hb, od_bS]
  dsimp only
  rw [Nat.mod_eq_of_lt (show D + 1 < 4294967296 by omega)]
  refine wok_b (e_77 (cb := cb) (B := 6210) hM hr hc hb (by omega) (by omega) hn hc0 hO (by omega) (by omega) m5 (by omega)) fun r K1 h1 => ?_
  dsimp only
  rcases h1 with ⟨ms, iM, e1, E1, f1⟩ | ⟨e1, hx⟩
  rotate_left
  · rw [e1, od_bS] at hd
    refine wok_b (sx_148 hx (by omega)) fun r K h => ?_
    exact wok_m (sxB h.2 (by omega)) fun r K h => Or.inr ⟨_, _, rba_f (hd.trans (if_pos rfl)) hfA (by omega), sx_le h (by omega)⟩
  rw [e1, od_bS] at hd
  dsimp only at hd
  rw [if_neg (by decide)] at hd
  have ff1 : rm_fr FA (wq_up F 0 25 (i + 1)) := rm_fr_up hfA (by decide) (by decide)
  have x1 : ∀ d j, ¬ d = 0 → wq_up F 0 25 (i + 1) d j = F d j := fun d j q => wq_up_cell q
  generalize wq_up F 0 25 (i + 1) = F1 at *
  have e2 := e_la (cb := cb) (x1 := 31) (x2 := ln) (x3 := i0) (x4 := v0) E1.1 E1.2.1 E1.2.2.1 m5
  have e3 := e_la (cb := cb) (x1 := 3) (x2 := 0) (x3 := 0) (x4 := 0) e2.1 e2.2.1 e2.2.2.1 m5
  rw [dkS_31 (by rw [E1.1.2.2.1.1]; omega), od_bS] at hd
  dsimp only at hd
  rw [dkS_31 (by rw [e2.1.2.2.1.1]; show W.length + 1 < 4000; omega), od_bS] at hd
  have hq1 := E1.2.2.1.2.2.2.2.2.1
  have E3 := eg_t E1 (eg_t e2 e3 hq1) h62
  have ff3 : rm_fr FA (pm_la (pm_la F1 31 ln i0 v0) 3 0 0 0) := rm_fr_la (rm_fr_la ff1)
  generalize pm_la (pm_la F1 31 ln i0 v0) 3 0 0 0 = F3 at *
  have g3 : rgo nn FA mm F3 := rgo_i hd (by decide) E3.1.1.1 ff3
  -- the first value
  refine wok_b (hE k 0 0 (i + 1) t w s nw ns np N _ voff ph cx c cb ((31, ln, i0, v0) :: W) L P Q ls ms F3 K1 (by omega) (by unfold lim; omega) (by omega) E3.1 E3.2.1 E3.2.2.1 ⟨by omega, by omega, by omega, by omega, m5, m6, by omega, by show W.length + 1 ≤ _; omega, m9, m10, m11, m12⟩) fun r K4 h4 => ?_
  dsimp only
  rcases h4 with ⟨i4, w4, s4, nw4, ns4, np4, ls4, cs4, H4, g4, E4, ⟨u1, u2, u3, u4, u5⟩, _⟩ | ⟨e, p, ho, hx⟩
  rotate_left
  · exact wok_m (sxB hx (by omega)) fun r K h => Or.inr ⟨e, p, rgo_o g3 ho, sx_le h (by omega)⟩
  have i4M := E4.1.1.2.2.1
  have n4 : np4 ≤ 50 := E4.2.2.2.2.2.2
  have E34 := eg_t E3 E4 h62
  have hgo4 := fun H => ry_go (nn := nn) (H := H) E4.1 (by show W.length < 4000; omega)
  have hba4 := fun k p => ry_ba (nn := nn) (k := k) (p := p) E4.1 (by show W.length < 4000; omega)
  have ep4 := e_pop (cb := cb) E4.1 E4.2.1 E4.2.2.1 n4
  have fp4 : rm_fr H4 (wq_up H4 0 46 W.length) := rm_fr_up (rm_fr_refl _) (by decide) (by decide)
  have h33 : dk_32 nn (wq_up H4 0 46 W.length) (31, ln, i0, v0).1 (31, ln, i0, v0).2.1 (31, ln, i0, v0).2.2.1 (31, ln, i0, v0).2.2.2 = dk_265 (wq_up H4 0 46 W.length) ln i0 v0 := by
    show dk_32 nn (wq_up H4 0 46 W.length) 31 ln i0 v0 = _
    rw [dk32_31b]
  generalize dk_32 nn (wq_up H4 0 46 W.length) (31, ln, i0, v0).1 (31, ln, i0, v0).2.1 (31, ln, i0, v0).2.2.1 (31, ln, i0, v0).2.2.2 = m4' at *
  generalize wq_up H4 0 46 W.length = P4 at *
  have hq4 := E4.2.2.1.2.2.2.2.2.1
  have wp4 : P4 0 41 = w4 := ep4.1.2.1.2.1
  unfold dk_265 at h33
  refine wok_b (e_sg (cb := cb) (x := 44) (B := 6230) hM ep4.1 ep4.2.1 ep4.2.2.1 (by decide) (by decide) hn hc0 hO (by omega) (by omega) n4 (by omega)) fun r K5 h5 => ?_
  dsimp only
  rcases h5 with ⟨ms5, iM5, e5, E5, f5⟩ | ⟨kk, e5, hx⟩
  rotate_left
  · rw [e5, od_bS] at h33
    have ho := hba4 _ _ (rba_f (h33.trans (if_pos rfl)) fp4 (by omega))
    refine wok_b (sx_148 hx (by omega)) fun r K h => ?_
    exact wok_m (sxA h.2 (by omega)) fun r K h => Or.inr ⟨_, _, rgo_o g3 (rm_to_out g4.1 g4.2 ho), sx_le h (by omega)⟩
  rw [e5, od_bS] at h33
  dsimp only at h33
  rw [if_neg (by decide)] at h33
  have ff5 : rm_fr H4 (wq_up P4 0 25 (i4 + 1)) := rm_fr_up fp4 (by decide) (by decide)
  generalize wq_up P4 0 25 (i4 + 1) = F5 at *
  have e6 := e_la (cb := cb) (x1 := 32) (x2 := ln) (x3 := i0) (x4 := v0) E5.1 E5.2.1 E5.2.2.1 n4
  have e7 := e_la (cb := cb) (x1 := 3) (x2 := 0) (x3 := 0) (x4 := 0) e6.1 e6.2.1 e6.2.2.1 n4
  rw [dkS_31 (by rw [E5.1.2.2.1.1]; omega), od_bS] at h33
  dsimp only at h33
  rw [dkS_31 (by rw [e6.1.2.2.1.1]; show W.length + 1 < 4000; omega), od_bS] at h33
  have hq5 := E5.2.2.1.2.2.2.2.2.1
  have E7 := eg_t ep4 (eg_t E5 (eg_t e6 e7 hq5) hq4) hq4
  have ff7 : rm_fr H4 (pm_la (pm_la F5 32 ln i0 v0) 3 0 0 0) := rm_fr_la (rm_fr_la ff5)
  generalize pm_la (pm_la F5 32 ln i0 v0) 3 0 0 0 = F7 at *
  have g7 := hgo4 F7 (rgo_i h33 (by decide) E7.1.1.1 ff7)
  have g47 : rgo nn FA mm F7 := rgo_t g3 ⟨rm_trans g4.1 g7.1, rm_fr_trans g4.2 g7.2⟩
  have E37 := eg_t E34 E7 h62
  -- the second value
  refine wok_b (hE k 0 0 (i4 + 1) t w4 s4 nw4 ns4 np4 N _ voff ph cx (0 :: c) cb ((32, ln, i0, v0) :: W) L P Q ls4 ms5 F7 K5 (by omega) (by unfold lim; omega) (by omega) E7.1 E7.2.1 E7.2.2.1 ⟨by omega, by omega, by omega, by omega, n4, m6, by rw [hg_0]; omega, by show W.length + 1 ≤ _; omega, m9, m10, m11, m12⟩) fun r K8 h8 => ?_
  dsimp only
  rcases h8 with ⟨i8, w8, s8, nw8, ns8, np8, ls8, cs8, H8, g8, E8, ⟨v1, v2, v3, v4, v5⟩, _⟩ | ⟨e, p, ho, hx⟩
  rotate_left
  · exact wok_m (sxA hx (by omega)) fun r K h => Or.inr ⟨e, p, rgo_o g47 ho, sx_le h (by omega)⟩
  have i8M := E8.1.1.2.2.1
  have n8 : np8 ≤ 50 := E8.2.2.2.2.2.2
  have E38 := eg_t E37 E8 h62
  have g48 : rgo nn FA mm H8 := rgo_t g47 g8
  have hgo8 := fun H => ry_go (nn := nn) (H := H) E8.1 (by show W.length < 4000; omega)
  have hba8 := fun k p => ry_ba (nn := nn) (k := k) (p := p) E8.1 (by show W.length < 4000; omega)
  have ep8 := e_pop (cb := cb) E8.1 E8.2.1 E8.2.2.1 n8
  have fp8 : rm_fr H8 (wq_up H8 0 46 W.length) := rm_fr_up (rm_fr_refl _) (by decide) (by decide)
  have h34 : dk_32 nn (wq_up H8 0 46 W.length) (32, ln, i0, v0).1 (32, ln, i0, v0).2.1 (32, ln, i0, v0).2.2.1 (32, ln, i0, v0).2.2.2 = dk_266 (wq_up H8 0 46 W.length) ln i0 v0 := by
    show dk_32 nn (wq_up H8 0 46 W.length) 32 ln i0 v0 = _
    rw [dk32_32b]
  generalize dk_32 nn (wq_up H8 0 46 W.length) (32, ln, i0, v0).1 (32, ln, i0, v0).2.1 (32, ln, i0, v0).2.2.1 (32, ln, i0, v0).2.2.2 = m8' at *
  generalize wq_up H8 0 46 W.length = P8 at *
  have hq8 := E8.2.2.1.2.2.2.2.2.1
  have wp8 : P8 0 41 = w8 := ep8.1.2.1.2.1
  have h3814 := E38.2.2.1
  -- the rest of it, from the state where three values stand
  have fin : ∀ {i9 w9 s9 nw9 ns9 np9 : Nat} {ls9 cs9 : List (List Nat)} {F9 K9 : wq_F} {mx : Option (Nat × wq_F)}, eg T n M G0 c0 O N (at_N off N (off N + 1)) voff ph cx cb F G i ls cs w s nw ns np c t W L P Q F9 K9 i9 ls9 cs9 w9 s9 nw9 ns9 np9 (0 :: 0 :: 0 :: c) → (i < i9 ∧ w9 + 6 * i + 4 ≤ w + 6 * i9 ∧ s9 + 4 * i + 4 ≤ s + 4 * i9 ∧ nw9 + i ≤ nw + i9 ∧ ns9 + i ≤ ns + i9) → i + 2 ≤ i9 → (∀ H, rgo nn F9 mx H → rgo nn FA mm H) → (∀ e p, rba nn F9 mx e p → rba nn FA mm e p) → mx = dk_267 F9 ln i0 v0 → wok (dk_127_82 (dk_R nn k) nn K9 D ln (off N) (G 65 (N - 1)) (hg c)) (fun _ K => (∃ i' w' s' nw' ns' np' ls' cs' H K2, wq_up K 59 3 (off N) = K2 ∧ rgo nn FA (mm) H ∧ eg T n M G0 c0 O N off voff ph cx cb F G i ls cs w s nw ns np c t W L P Q H K2 i' ls' cs' w' s' nw' ns' np' c ∧ (i < i' ∧ w' + 3 + 6 * i ≤ w + 6 * i' ∧ s' + 2 + 4 * i ≤ s + 4 * i' ∧ nw' + i ≤ nw + i' ∧ ns' + i ≤ ns + i')) ∨ ∃ e p, rba nn FA (mm) e p ∧ sx T n G0 c0 O e p N (zz D + 40) K) := fun {i9 w9 s9 nw9 ns9 np9 ls9 cs9 F9 K9 mx} E9 rt hi9 hgo hba emx => by
    obtain ⟨y1, y2, y3, y4, y5⟩ := rt
    have i9M := E9.1.1.2.2.1
    have n9 : np9 ≤ 50 := E9.2.2.2.2.2.2
    obtain ⟨t1, t2, t3⟩ := E9.2.2.2.2.1
    have t32 := t3.2
    rw [at_N_is] at t32
    have k62 : ∀ l, l < N → K9 62 l = G 62 l := fun l hl => (t3.1 l hl).1
    obtain ⟨_, _, _, ⟨o7, o8⟩, _⟩ := nm_n E9.2.2.1 n9 ((k62 _ (by omega)).trans hf)
    obtain ⟨_, _, _, ⟨q7, q8⟩, _⟩ := nm_n hb m5 hf
    have hfN : f < np := by rw [← hf]; exact h62 (N - 1) (by omega)
    have q19 := (E9.2.2.2.1.2.2.1.2.2.2 f hfN).2.2
    refine wok_m (for_do1 (cb := cb) (f := f) (i0 := i0) (v0 := v0) (o := G 65 (N - 1)) hM hn hc0 hO hn2 hD hBk hkf htD E9.1 E9.2.1 E9.2.2.1 hoff hph (fun k a b => by rw [t32 _ (by have := hph k b; omega) 61 (Or.inr rfl)]; exact h61c k a b) ((k62 _ (by omega)).trans hf) (by omega) hv hc5 hfs (fun x a b => (t32 x b 61 (Or.inr rfl)).trans (hp.2.1 x a b)) (fun j hj => by
      obtain ⟨a1, a2, a3⟩ := hp.2.2 j hj
      rw [t32 (off N + j) (by omega) 60 (Or.inl rfl)]
      exact ⟨a1, Nat.lt_of_lt_of_le a2 t2.1, by rw [t2.2 _ a2]; exact a3⟩) (by omega) ⟨by omega, by omega, by omega, by omega, n9, m6, by omega, by omega, m9, m10, m11, m12⟩ hW hL1 hao hok) fun r K hK => ?_
    rw [← emx] at hK
    rcases hK with ⟨i', w', s', nw', ns', np', ls', cs', H, K2, eK, gF, rF, cF, bF, pF, ⟨sf, sp, ii, nF⟩, ⟨o1, o2, o3, o4⟩, z1, z2, z3, z4⟩ | ⟨e, p, ho, hx⟩
    rotate_left
    · exact Or.inr ⟨e, p, hba e p ho, sx_le hx (by omega)⟩
    have hlv : ∀ g, np ≤ g → ¬ lvl N G g := fun g hg ⟨l, l1, l2⟩ => by have := h62 l l1; omega
    rw [lvl_eq k62, k62 (N - 1) (by omega)] at pF
    have PJ := pj_t E9.2.2.2.1 pF sf.1 sp hlv (h62 (N - 1) (by omega))
    refine Or.inl ⟨i', w', s', nw', ns', np', ls', cs', H, K2, eK, hgo H gF, ⟨rF, cF, bF, PJ, ⟨st_sf_trans t1 sf, st_pre_trans t2 sp, ⟨fun l hl => ⟨(o2 l hl).trans (k62 l hl), ?_⟩, fun x hx e6 h6 => (o4 x hx e6 h6).trans (t32 x (by omega) e6 h6)⟩⟩, by omega, nF⟩, by omega, by omega, by omega, by omega, by omega⟩
    by_cases zl : l = N - 1
    · rw [zl]
      exact o1
    · rw [o3 l (by omega)]
      exact (t3.1 l hl).2
  unfold dk_266 at h34
  rw [pm_isSign hM ep8.1.1 (by decide), od_bS] at h34
  dsimp only at h34
  rw [if_ck] at h34
  have e9 := e_la (cb := cb) (x1 := 33) (x2 := ln) (x3 := i0) (x4 := v0) ep8.1 ep8.2.1 ep8.2.2.1 n8
  have e10 := e_la (cb := cb) (x1 := 3) (x2 := 0) (x3 := 0) (x4 := 0) e9.1 e9.2.1 e9.2.2.1 n8
  have ff10 : rm_fr H8 (pm_la (pm_la P8 33 ln i0 v0) 3 0 0 0) := rm_fr_la (rm_fr_la fp8)
  have E10 := eg_t e9 e10 ep8.2.2.1.2.2.2.2.2.1
  refine wok_b (e_opt (cb := cb) (x := 44) (B := 6240) hM e10.1 e10.2.1 e10.2.2.1 (by decide) (by decide) hn hc0 hO (by omega) (by omega) n8 (by omega)) fun r K11 h11 => ?_
  dsimp only
  rcases h11 with ⟨ms11, rr, iM11, q11, e11, E11, f11⟩ | ⟨q11, e11, rr, hx⟩ | ⟨rr, q11, eK⟩
  · -- a third value
    refine wok_f (by omega) ?_
    rw [if_pos q11, dkS_31 (by rw [ep8.1.2.2.1.1]; omega), od_bS] at h34
    dsimp only at h34
    rw [dkS_31 (by rw [e9.1.2.2.1.1]; show W.length + 1 < 4000; omega), od_bS] at h34
    dsimp only at h34
    rw [od_bI, e11] at h34
    have ff11 : rm_fr H8 (wq_up (pm_la (pm_la P8 33 ln i0 v0) 3 0 0 0) 0 25 (i8 + 1)) := rm_fr_up ff10 (by decide) (by decide)
    generalize wq_up (pm_la (pm_la P8 33 ln i0 v0) 3 0 0 0) 0 25 (i8 + 1) = F11 at *
    have g11 := hgo8 F11 (rgo_i h34 (by decide) E11.1.1.1 ff11)
    have g411 : rgo nn FA mm F11 := rgo_t g48 g11
    have E311 := eg_t E38 (eg_t ep8 (eg_t E10 E11 ep8.2.2.1.2.2.2.2.2.1) hq8) h62
    refine wok_b (hE k 0 0 (i8 + 1) t w8 s8 nw8 ns8 np8 N _ voff ph cx (0 :: 0 :: c) cb ((33, ln, i0, v0) :: W) L P Q ls8 ms11 F11 K11 (by omega) (by unfold lim; omega) (by omega) E11.1 E11.2.1 E11.2.2.1 ⟨by omega, by omega, by omega, by omega, n8, m6, by rw [hg_0, hg_0]; omega, by show W.length + 1 ≤ _; omega, m9, m10, m11, m12⟩) fun r K12 h12 => ?_
    dsimp only
    rcases h12 with ⟨i12, w12, s12, nw12, ns12, np12, ls12, cs12, H12, g12, E12, ⟨x1', x2, x3, x4, x5⟩, _⟩ | ⟨e, p, ho, hx⟩
    rotate_left
    · exact wok_m (sx_82 hx hao (by omega) hn (by omega) hok) fun r K h => Or.inr ⟨e, p, rgo_o g411 ho, sx_le h (by omega)⟩
    have i12M := E12.1.1.2.2.1
    have n12 : np12 ≤ 50 := E12.2.2.2.2.2.2
    have hgo12 := fun H => ry_go (nn := nn) (H := H) E12.1 (by show W.length < 4000; omega)
    have hba12 := fun k p => ry_ba (nn := nn) (k := k) (p := p) E12.1 (by show W.length < 4000; omega)
    have ep12 := e_pop (cb := cb) E12.1 E12.2.1 E12.2.2.1 n12
    have fp12 : rm_fr H12 (wq_up H12 0 46 W.length) := rm_fr_up (rm_fr_refl _) (by decide) (by decide)
    have h35 : dk_32 nn (wq_up H12 0 46 W.length) (33, ln, i0, v0).1 (33, ln, i0, v0).2.1 (33, ln, i0, v0).2.2.1 (33, ln, i0, v0).2.2.2 = dk_267 (wq_up H12 0 46 W.length) ln i0 v0 := by
      show dk_32 nn (wq_up H12 0 46 W.length) 33 ln i0 v0 = _
      rw [dk32_33b]
    generalize dk_32 nn (wq_up H12 0 46 W.length) (33, ln, i0, v0).1 (33, ln, i0, v0).2.1 (33, ln, i0, v0).2.2.1 (33, ln, i0, v0).2.2.2 = m12' at *
    generalize wq_up H12 0 46 W.length = P12 at *
    exact fin (eg_t (eg_t E311 E12 h62) ep12 h62) ⟨by omega, by omega, by omega, by omega, by omega⟩ (by omega) (fun H h => rgo_t g411 ⟨rm_trans g12.1 (hgo12 H (rgo_fr h fp12)).1, rm_fr_trans g12.2 (hgo12 H (rgo_fr h fp12)).2⟩) (fun e p h => rgo_o g411 (rm_to_out g12.1 g12.2 (hba12 e p (rba_fr h fp12)))) h35
  · refine wok_f (by omega) ?_
    rw [if_pos q11, dkS_31 (by rw [ep8.1.2.2.1.1]; omega), od_bS] at h34
    dsimp only at h34
    rw [dkS_31 (by rw [e9.1.2.2.1.1]; show W.length + 1 < 4000; omega), od_bS] at h34
    dsimp only at h34
    rw [od_bI, e11] at h34
    have ho := hba8 _ _ (rba_f h34 ff10 (by rw [e10.1.2.1.2.1]; omega))
    refine wok_b (sx_148 hx (by omega)) fun r K h => ?_
    exact wok_m (sx_82 h.2 hao (by omega) hn (by omega) hok) fun r K h => Or.inr ⟨_, _, rgo_o g48 ho, sx_le h (by omega)⟩
  · -- no third value: 1
    refine wok_t rr ?_
    rw [eK]
    rw [if_neg q11] at h34
    obtain ⟨o1, o2, o3⟩ := e_one (cb := cb) (l := 0) (l' := ln) (kk := fun F17 => (dk_267 F17 ln i0 v0).bind fun y20 => some (y20.1, y20.2)) ep8.1 ep8.2.1 ep8.2.2.1 n8 (by omega) (by omega) (by omega) (by omega) (by rw [hg_0, hg_0]; omega)
    rw [o1, od_bI] at h34
    have e157 : ((dk_157 K8 18446744073709551617).bind fun y30 => (dk_112 y30.2 3 y30.1 ln 1).bind fun y34 => dk_127_82 (dk_R nn k) nn y34.2 D ln (off N) (G 65 (N - 1)) (hg c)) = ((dk_157 K8 18446744073709551617).bind fun y30 => dk_112 y30.2 3 y30.1 ln 1).bind fun y34 => dk_127_82 (dk_R nn k) nn y34.2 D ln (off N) (G 65 (N - 1)) (hg c) := od_ba.symm
    rw [e157]
    refine wok_b o3 fun r K13 h13 => ?_
    dsimp only
    have ff13 : rm_fr H8 (wq_up (pm_em (wq_up P8 24 nw8 1) 4 nw8 0 0) 0 40 (nw8 + 1)) := rm_fr_trans fp8 o2
    generalize wq_up (pm_em (wq_up P8 24 nw8 1) 4 nw8 0 0) 0 40 (nw8 + 1) = F13 at *
    exact fin (eg_t E38 (eg_t ep8 h13 hq8) h62) ⟨by omega, by omega, by omega, by omega, by omega⟩ (by omega) (fun H h => rgo_t g48 (hgo8 H (rgo_fr h ff13))) (fun e p h => rgo_o g48 (hba8 e p (rba_fr h ff13))) h34
end
