/-! ===== a55: local, all of it (wip/whole2/lawa55.py) ===== -/
section
variable {nn : Nat} {T : Nat → Nat} {n M O : Nat} {G0 : wq_F} {c0 : List (List Nat)} {i t w s nw ns np N : Nat} {off voff ph : Nat → Nat} {cx : Nat → List Nat} {c cb : List Nat} {W : List (Nat × Nat × Nat × Nat)} {L : List (Nat × Nat)} {P Q : List (Nat × Nat × Nat)} {ls cs : List (List Nat)} {F G : wq_F}

variable {f v0 : Nat} {Jr0 Jc0 : List Nat}
/-- a word that may stand there -/
theorem e_optw {x B : Nat} (hM : tk_M T n M) (hr : ry T n M i ls t w nw np W L P F) (hc : cy T n G0 c0 O i cs s ns np N Q G) (hb : bz N off voff ph cx c np F ls G cs) (hx : 1 ≤ x ∧ x ≤ 21) (hn : 10000 < nn) (hc0 : c0.length ≤ 1400) (hO : O ≤ 20000) (hs : s ≤ B) (hns : ns ≤ 10000) (hnp : np ≤ 50) (hQ : Q.length ≤ 440) :
    wok (dk_111 nn G (9 + x)) (fun r K => (∃ ms, r = 1 ∧ i < M ∧ (tk_k T n i = 4 ∧ tk_V T n (tk_pos T n i) = x) ∧ dk_212 F = some (1, wq_up F 0 25 (i + 1)) ∧ (eg T n M G0 c0 O N off voff ph cx cb F G i ls cs w s nw ns np c t W L P Q (wq_up F 0 25 (i + 1)) K (i + 1) ls ms w s nw ns np c) ∧ px_fr G K) ∨ ((tk_k T n i = 4 ∧ tk_V T n (tk_pos T n i) = x) ∧ dk_212 F = some (0, pm_f F 3 (tk_pos T n i)) ∧ r = 1 ∧ sx T n G0 c0 O 3 (tk_pos T n i) N B K) ∨ (r = 0 ∧ ¬ (tk_k T n i = 4 ∧ tk_V T n (tk_pos T n i) = x) ∧ K = G)) := by
  have h57 : G 57 4 = tk_ty T n (tk_pos T n i) := hc.1.2.1.1
  unfold dk_111
  by_cases q : tk_k T n i = 4 ∧ tk_V T n (tk_pos T n i) = x
  · refine wok_t (h57.trans ((tk_ty_word hx).mpr q)) (wok_f (by omega) (wok_b (e_77 (cb := cb) hM hr hc hb (by omega) (by omega) hn hc0 hO hs hns hnp hQ) fun r K h => wok_r ?_))
    rcases h with ⟨ms, a1, a2, a3, a4⟩ | ⟨a1, a2⟩
    · exact Or.inl ⟨ms, rfl, a1, q, a2, a3, a4⟩
    · exact Or.inr (Or.inl ⟨q, a1, rfl, a2⟩)
  · exact wok_f (fun z => q ((tk_ty_word hx).mp (h57.symm.trans z))) (wok_t rfl (wok_r (Or.inr (Or.inr ⟨rfl, q, rfl⟩))))
theorem dkS_218 (hb : bz N off voff ph cx c np F ls G cs) (hnp : np ≤ 50) (hf : G 62 (N - 1) = f) : dk_218 F = some (f, F) := by
  obtain ⟨_, _, _, _, ⟨n9, n10⟩, _⟩ := nm_n hb hnp hf
  have n2 := hb.1.1.2.1
  unfold dk_218
  rw [od_g1 (by omega), n10]
/-- local -/
theorem st_local {D k : Nat} (hM : tk_M T n M) (hn : 10000 < nn) (hc0 : c0.length ≤ 1400) (hO : O ≤ 20000) (hn2 : 14000 < nn) (hD : D ≤ 20) (hE : E_ok nn T n M G0 c0 O (D + 1)) (hBf : B_ok nn T n M G0 c0 O D) (hkf : 20 * (22 - D) + 13 ≤ k) (htD : t = D) (hr : ry T n M i ls t w nw np W L P F) (hc : cy T n G0 c0 O i cs s ns np N Q G) (hb : bz N off voff ph cx c np F ls G cs) (hB : bnd i w s nw ns np t (hg c) W L P Q N) (hW : W.length ≤ 20 * t) (hNt : N ≤ t) (hL1 : L.length + 1 ≤ t) (hbo : bo N L F G w s Jr0 Jc0) (hib : ib N L cb c) (hfs : fs c) (hk : tk_k T n i = 4 ∧ tk_V T n (tk_pos T n i) = 12) : wok (dk_130 (dk_R nn k) nn G D) (fun _ K => (∃ i' w' s' nw' ns' np' ls' cs' H c' off' voff' ph' L' Jr Jc, rgo nn F ((dk_212 F).bind fun y24 => if y24.1 = 0 then some (0, y24.2) else (dk_230 nn y24.2).bind fun y96 => some (y96.1, y96.2)) H ∧ ge T n M G0 c0 O N cx cb F G i ls cs w s nw ns np c off voff ph L Jr0 Jc0 t W P Q H K i' ls' cs' w' s' nw' ns' np' c' off' voff' ph' L' Jr Jc ∧ lo N voff c voff' ph' c' K ∧ rts i w s nw ns i' (w' + 1) (s' + 1) nw' ns' ∧ hg c' + 2 * i ≤ hg c + 2 * i') ∨ ∃ e p, rba nn F ((dk_212 F).bind fun y24 => if y24.1 = 0 then some (0, y24.2) else (dk_230 nn y24.2).bind fun y96 => some (y96.1, y96.2)) e p ∧ sx T n G0 c0 O e p N (zz D + 98) K) := by
  have hz : 6200 ≤ zz D ∧ zz D < 9800 := by unfold zz; omega
  have hB0 := hB
  obtain ⟨m1, m2, m3, m4, m5, m6, m7, m8, m9, m10, m11, m12⟩ := hB
  have hM1 := hM.1
  have hiM := hr.1.2.2.1
  have hN := hb.1.1
  have h62 := hb.2.2.2.2.2.1
  have h593 : G 59 3 = off N := hN.2.2.2.2.2.2.1
  have n11 : off N ≤ 1200 := hN.2.2.2.2.2.2.2.2
  have hw1 : F 0 41 = w := hr.2.1.2.1
  unfold dk_130
  rw [cy_84 hc hb, od_bS, h593]
  dsimp only
  refine wok_b (e_77 (cb := cb) (B := 6200) hM hr hc hb (by omega) (by omega) hn hc0 hO (by omega) (by omega) m5 (by omega)) fun r K1 h1 => ?_
  dsimp only
  rcases h1 with ⟨ms, iM, e1, E1, f1⟩ | ⟨e1, hx⟩
  rotate_left
  · have hd : ((dk_212 F).bind fun y24 => if y24.1 = 0 then some (0, y24.2) else (dk_230 nn y24.2).bind fun y96 => some (y96.1, y96.2)) = some (0, pm_f F 3 (tk_pos T n i)) := by
      rw [e1, od_bS]
      dsimp only
      rw [if_pos rfl]
    have ho := rba_f (nn := nn) hd (rm_fr_refl _) (by omega)
    refine wok_b (sx_111 hx (by decide)) fun r K h => ?_
    refine wok_t h.1 ?_
    refine wok_b (sx_124 h.2) fun r K h => ?_
    refine wok_b (sx_77 h) fun r K h => ?_
    refine wok_b (sx_125 h hn) fun r K h => ?_
    exact wok_m (sx_lo2 h (by omega) n11 hn) fun r K h => Or.inr ⟨_, _, ho, sx_le h (by omega)⟩
  have ff1 : rm_fr F (wq_up F 0 25 (i + 1)) := rm_fr_up (rm_fr_refl _) (by decide) (by decide)
  have hd0 : ((dk_212 F).bind fun y24 => if y24.1 = 0 then some (0, y24.2) else (dk_230 nn y24.2).bind fun y96 => some (y96.1, y96.2)) = (dk_230 nn (wq_up F 0 25 (i + 1))).bind fun y96 => some (y96.1, y96.2) := by
    rw [e1, od_bS]
    dsimp only
    rw [if_neg (by decide)]
  rw [od_bI] at hd0
  generalize ((dk_212 F).bind fun y24 => if y24.1 = 0 then some (0, y24.2) else (dk_230 nn y24.2).bind fun y96 => some (y96.1, y96.2)) = mm at *
  generalize wq_up F 0 25 (i + 1) = F1 at *
  have GE1 := ge_eg E1 hbo
  have k162 := (E1.2.2.2.2.1.2.2.1 (N - 1) (by omega)).1
  have hg1 : ∀ {A : wq_F} {m : Option (Nat × wq_F)} {H : wq_F}, rm_fr F A → mm = m → rgo nn A m H → rgo nn F mm H := fun ha e h => by
    rw [e]
    exact rgo_fr h ha
  have hb1 : ∀ {A : wq_F} {m : Option (Nat × wq_F)} {e p : Nat}, rm_fr F A → mm = m → rba nn A m e p → rba nn F mm e p := fun ha e h => by
    rw [e]
    exact rba_fr h ha
  unfold dk_230 at hd0
  rw [pm_isWord hM E1.1.1 (by decide), od_bS] at hd0
  dsimp only at hd0
  rw [if_ck] at hd0
  refine wok_b (e_optw (cb := cb) (x := 9) (B := 6210) hM E1.1 E1.2.1 E1.2.2.1 (by decide) hn hc0 hO (by omega) (by omega) m5 (by omega)) fun r2 K2 h2 => ?_
  dsimp only
  rcases h2 with ⟨ms2, rr, iM2, q2, e2, E2, f2⟩ | ⟨q2, e2, rr, hx⟩ | ⟨rr, q2, eK⟩
  · refine wok_f (by omega) ?_
    rw [if_pos q2, e2, od_bS] at hd0
    dsimp only at hd0
    have ff2 : rm_fr F (wq_up F1 0 25 (i + 1 + 1)) := rm_fr_up ff1 (by decide) (by decide)
    generalize wq_up F1 0 25 (i + 1 + 1) = F2 at *
    rw [if_neg (by decide), od_g1 (pm_b hM E2.1.1)] at hd0
    have E12 := eg_t E1 E2 h62
    have GE2 := ge_eg E12 hbo
    refine wok_m (loc_func (k := k) (cb := cb) hM hn hc0 hO hD hBf hkf htD E12.1 E12.2.1 E12.2.2.1 ⟨by omega, by omega, by omega, by omega, m5, m6, by omega, m8, m9, m10, m11, m12⟩ hW hNt GE2.2.2.2.2.2.2.2.1 rfl rfl) fun r K h => ?_
    rcases h with ⟨i', w', s', nw', ns', np', ls', cs', H, c', off', voff', ph', g, GE, lo', ⟨u1, u2, u3, u4, u5⟩, hh⟩ | ⟨e, p, ho, hx⟩
    · exact Or.inl ⟨i', w', s', nw', ns', np', ls', cs', H, c', off', voff', ph', L, [], [], hg1 ff2 hd0 g, ge_t GE2 GE h62, lo', ⟨by omega, by omega, by omega, by omega, by omega⟩, by omega⟩
    · exact Or.inr ⟨e, p, hb1 ff2 hd0 ho, sx_le hx (by omega)⟩
  · refine wok_f (by omega) ?_
    rw [if_pos q2, e2, od_bS] at hd0
    dsimp only at hd0
    rw [if_pos rfl] at hd0
    have ho := rba_f (nn := nn) hd0 ff1 (by rw [E1.1.2.1.2.1]; omega)
    refine wok_b (sx_124 hx) fun r K h => ?_
    refine wok_b (sx_77 h) fun r K h => ?_
    exact wok_m (sx_lf h (by omega) n11 (by omega) hn) fun r K h => Or.inr ⟨_, _, ho, sx_le h (by omega)⟩
  · refine wok_t rr ?_
    rw [eK]
    rw [if_neg q2, dkS_218 E1.2.2.1 m5 rfl, od_bS] at hd0
    dsimp only at hd0
    have hfN : K1 62 (N - 1) < 50 := by
      have := E1.2.2.1.2.2.2.2.2.1 (N - 1) (by omega)
      omega
    rw [od_g1 (by omega), show F1 0 25 = i + 1 from E1.1.1.2.1] at hd0
    refine wok_m (loc_names (k := k) (cb := cb) hM hn hc0 hO hD hE (by omega) htD E1.1 E1.2.1 E1.2.2.1 ⟨by omega, by omega, by omega, by omega, m5, m6, by omega, m8, m9, m10, m11, m12⟩ hW GE1.2.2.2.2.2.2.2.1 rfl rfl) fun r K h => ?_
    rcases h with ⟨i', w', s', nw', ns', np', ls', cs', H, c', off', voff', ph', g, GE, lo', ⟨u1, u2, u3, u4, u5⟩, hh⟩ | ⟨e, p, ho, hx⟩
    · exact Or.inl ⟨i', w', s', nw', ns', np', ls', cs', H, c', off', voff', ph', L, [], [], hg1 ff1 hd0 g, ge_t GE1 GE h62, lo', ⟨by omega, by omega, by omega, by omega, by omega⟩, by omega⟩
    · exact Or.inr ⟨e, p, hb1 ff1 hd0 ho, sx_le hx (by omega)⟩
end
