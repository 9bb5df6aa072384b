/-! ===== a09: a table's fields, the reference's choice; fields with keys (wip/whole2/lawa09.py) ===== -/
section
variable {nn : Nat} {T : Nat → Nat} {n M O : Nat} {G0 : wq_F} {c0 : List (List Nat)} {i t w s nw ns np N : Nat} {off voff ph : Nat → Nat} {cx : Nat → List Nat} {c cb : List Nat} {W : List (Nat × Nat × Nat × Nat)} {L : List (Nat × Nat)} {P Q : List (Nat × Nat × Nat)} {ls cs : List (List Nat)} {F G : wq_F}

theorem rF_close {pos m : Nat} (hM : tk_M T n M) (hr : ry T n M i ls t w nw np W L P F) (hk : tk_k T n i = 5 ∧ tk_V T n (tk_pos T n i) = 125) : dk_249 F pos m = dk_212 (wq_up F 0 64 4294967295) := by
  unfold dk_249
  rw [pm_isSign hM hr.1 (by decide), od_bS]
  dsimp only
  rw [if_ck, if_pos hk, od_upS, od_bI]
theorem rF_wrong {pos m : Nat} (hM : tk_M T n M) (hr : ry T n M i ls t w nw np W L P F) (h1 : ¬ (tk_k T n i = 5 ∧ tk_V T n (tk_pos T n i) = 125)) (h2 : ¬ (tk_k T n i = 5 ∧ tk_V T n (tk_pos T n i) = 91)) (h3 : tb_ex (tk_ty T n (tk_pos T n i)) = 0) : dk_249 F pos m = some (0, pm_f F (tk_wr T n i) (tk_pos T n i)) := by
  unfold dk_249
  rw [pm_isSign hM hr.1 (by decide), od_bS]
  dsimp only
  rw [if_ck, if_neg h1, pm_isSign hM hr.1 (by decide), od_bS]
  dsimp only
  rw [if_ck, if_neg h2, dkS_217 hM hr.1, od_bS]
  dsimp only
  rw [if_pos h3, od_bI, pm_wrong hM hr.1]
theorem rF_42 {pos m : Nat} (hM : tk_M T n M) (hr : ry T n M i ls t w nw np W L P F) (h1 : ¬ (tk_k T n i = 5 ∧ tk_V T n (tk_pos T n i) = 125)) (h3 : (tk_k T n i = 5 ∧ tk_V T n (tk_pos T n i) = 91) ∨ ¬ tb_ex (tk_ty T n (tk_pos T n i)) = 0) : dk_249 F pos m = dk_249_42 F pos m (if tk_k T n i = 5 ∧ tk_V T n (tk_pos T n i) = 91 then 1 else 0) := by
  unfold dk_249
  rw [pm_isSign hM hr.1 (by decide), od_bS]
  dsimp only
  rw [if_ck, if_neg h1, pm_isSign hM hr.1 (by decide), od_bS]
  dsimp only
  rw [if_ck]
  by_cases q : tk_k T n i = 5 ∧ tk_V T n (tk_pos T n i) = 91
  · rw [if_pos q, if_pos q]
  · rw [if_neg q, if_neg q, dkS_217 hM hr.1, od_bS]
    dsimp only
    rw [if_neg (h3.resolve_left q)]
theorem rF_30 {pos m v : Nat} (hM : tk_M T n M) (hr : ry T n M i ls t w nw np W L P F) (h : m = 30) : dk_249_42 F pos m v = some (0, pm_f F 3 (tk_pos T n i)) := by
  unfold dk_249_42
  rw [if_pos h, pm_here hM hr.1, od_bS]
  dsimp only
  rw [od_bI, pm_fail hr.1]
theorem rF_deep {pos m v : Nat} (hM : tk_M T n M) (hr : ry T n M i ls t w nw np W L P F) (h : ¬ m = 30) (ht : t = 20) : dk_249_42 F pos m v = some (0, pm_f F 3 (tk_pos T n i)) := by
  have e : dk_216 F = some (0, pm_f F 3 (tk_pos T n i)) := by
    unfold dk_216
    rw [if_pos (hr.2.1.1.trans ht), pm_here hM hr.1, od_bS]
    dsimp only
    rw [od_bI, pm_fail hr.1]
  unfold dk_249_42
  rw [if_neg h, e, od_bS]
  dsimp only
  rw [if_pos rfl]
theorem rF_enter (h : t < 20) (hr : ry T n M i ls t w nw np W L P F) : dk_216 F = some (1, wq_up F 0 47 (t + 1)) ∧ ry T n M i ls (t + 1) w nw np W L P (wq_up F 0 47 (t + 1)) := by
  have h47 := hr.2.1.1
  refine ⟨?_, ?_⟩
  · unfold dk_216
    rw [if_neg (by omega), h47, Nat.mod_eq_of_lt (show t + 1 < 4294967296 by omega), od_upS]
  · have g := ry_0 (j := 47) (v := t + 1) hr (by decide)
    rw [if_pos rfl, if_neg (by decide), if_neg (by decide)] at g
    exact g
theorem rF_key {pos m : Nat} (hM : tk_M T n M) (hr : ry T n M i ls t w nw np W L P F) (h : ¬ m = 30) (ht : t < 20) (hW : W.length < 3990) : dk_249_42 F pos m 1 = dk_212 (pm_la (pm_la (wq_up F 0 47 (t + 1)) 16 (1 + lc T (tk_pos T n i)) pos m) 3 0 0 0) := by
  obtain ⟨e, h2⟩ := rF_enter ht hr
  have h46 := h2.2.2.1.1
  unfold dk_249_42
  rw [if_neg h, e, od_bS]
  dsimp only
  rw [if_neg (by decide), pm_line hM h2.1, od_bS]
  dsimp only
  rw [if_neg (by decide), dkS_31 (by omega), od_bS]
  dsimp only
  rw [dkS_31 (by rw [pm_la_at.2.2.2.2]; omega), od_bS, od_bI]
/-- is it a name with = behind it, and not the last token there may be -/
def tk_nm (T : Nat → Nat) (n i : Nat) : Prop := tk_k T n i = 1 ∧ i < 1500 ∧ tk_k T n (i + 1) = 5 ∧ tk_V T n (tk_pos T n (i + 1)) = 61
theorem rF_0 {pos m : Nat} (hM : tk_M T n M) (hr : ry T n M i ls t w nw np W L P F) (h : ¬ m = 30) (ht : t < 20) : (tk_nm T n i ∧ dk_249_42 F pos m 0 = dk_249_161 (wq_up F 0 47 (t + 1)) pos m 1) ∨ (¬ tk_nm T n i ∧ dk_249_42 F pos m 0 = dk_249_161 (wq_up F 0 47 (t + 1)) pos m 0) := by
  obtain ⟨e, h2⟩ := rF_enter ht hr
  have hkd := pm_kind h2.1
  have hb := pm_b hM h2.1
  have h25 : wq_up F 0 47 (t + 1) 0 25 = i := h2.1.2.1
  have hM1 := hM.1
  have hiM := hr.1.2.2.1
  have k61 : (18446744073709551677 : Nat) = ev_oI2l 61 := by decide
  unfold tk_nm
  unfold dk_249_42
  rw [if_neg h, e, od_bS]
  dsimp only
  rw [if_neg (by decide), pm_line hM h2.1, od_bS]
  dsimp only
  rw [if_pos rfl, od_g1 hb]
  generalize wq_up F 0 47 (t + 1) = F7 at *
  by_cases q1 : tk_k T n i = 1
  · rw [if_pos (hkd.trans q1)]
    by_cases q2 : i < 1500
    · have hi2 : i < M := by
        by_cases z : i = M
        · exfalso
          rcases hM.2.2.1 with y | y | y
          · omega
          · rw [← z] at y; omega
          · rw [← z] at y; omega
        · omega
      have rt := h2.1.2.2.2.2.2.1 (i + 1) (by omega)
      rw [if_pos ((wd_slt (by omega) (by decide)).mpr (by omega)), od_letS, show (F7 0 25 + 1) % 4294967296 = i + 1 by omega, od_g1 (by omega)]
      by_cases q3 : tk_k T n (i + 1) = 5
      · rw [if_pos (rt.2.1.trans q3), od_letS, od_g1 (by omega), od_letS, od_letS, rt.2.2.1 (Or.inr (Or.inr q3))]
        by_cases q4 : tk_V T n (tk_pos T n (i + 1)) = 61
        · refine Or.inl ⟨⟨q1, q2, q3, q4⟩, ?_⟩
          exact if_pos (by rw [k61]; exact (pm_tokB (k := 0) (by decide)).mpr q4)
        · refine Or.inr ⟨fun z => q4 z.2.2.2, ?_⟩
          exact if_neg (by rw [k61]; exact fun z => q4 ((pm_tokB (k := 0) (by decide)).mp z))
      · refine Or.inr ⟨fun z => q3 z.2.2.1, ?_⟩
        exact if_neg (fun z => q3 (rt.2.1.symm.trans z))
    · refine Or.inr ⟨fun z => q2 z.2.1, ?_⟩
      exact if_neg (fun z => q2 (by have := (wd_slt (by omega) (by decide)).mp z; omega))
  · refine Or.inr ⟨fun z => q1 z.1, ?_⟩
    exact if_neg (fun z => q1 (hkd.symm.trans z))
theorem rF_p {pos m : Nat} (hr : ry T n M i ls t w nw np W L P F) (hW : W.length < 3990) (hw : w < 13990) : dk_249_161 F pos m 0 = some (1, pm_la (pm_la (pm_em F 14 0 0 0) 18 pos m 0) 3 0 0 0) := by
  have h41 := hr.2.1.2.1
  have h46 := hr.2.2.1.1
  unfold dk_249_161
  rw [if_pos rfl, dkS_30 (by omega), od_bS]
  dsimp only
  rw [dkS_31 (by rw [pm_em_ne (by omega) (by omega)]; omega), od_bS]
  dsimp only
  rw [dkS_31 (by rw [pm_la_at.2.2.2.2, pm_em_ne (by omega) (by omega)]; omega), od_bS]
theorem rF_n {pos m : Nat} (hM : tk_M T n M) (hr : ry T n M i ls t w nw np W L P F) (hW : W.length < 3990) (hw : w < 13990) : dk_249_161 F pos m 1 = (dk_212 (pm_la (pm_la (pm_em F 5 (ev_oL2i (18446744073709551616 + F 11 (F 0 25))) 0 0) 17 0 pos m) 3 0 0 0)).bind fun y30 => if y30.1 = 0 then some (0, y30.2) else (dk_212 y30.2).bind fun y35 => if y35.1 = 0 then some (0, y35.2) else some (1, y35.2) := by
  have h41 := hr.2.1.2.1
  have h46 := hr.2.2.1.1
  unfold dk_249_161
  rw [if_neg (by decide), od_g1 (pm_b hM hr.1), od_letS, dkS_30 (by omega), od_bS]
  dsimp only
  rw [dkS_31 (by rw [pm_em_ne (by omega) (by omega)]; omega), od_bS]
  dsimp only
  rw [dkS_31 (by rw [pm_la_at.2.2.2.2, pm_em_ne (by omega) (by omega)]; omega), od_bS]
/-- a field with a key stands on both sides: the class has written it -/
def kvp (nn : Nat) (T : Nat → Nat) (n M : Nat) (G0 : wq_F) (c0 : List (List Nat)) (O N : Nat) (off voff ph : Nat → Nat) (cx : Nat → List Nat) (cb : List Nat) (F0 A B : wq_F) (i : Nat) (ls cs : List (List Nat)) (w s nw ns np : Nat) (cS c : List Nat) (t pos m : Nat) (W : List (Nat × Nat × Nat × Nat)) (L : List (Nat × Nat)) (P Q : List (Nat × Nat × Nat)) (K : wq_F) : Prop :=
  ∃ i1 w1 s1 nw1 ns1 np1 ls1 cs1 H1 K0 kx ln v2, (rm_to nn F0 H1 ∧ rm_fr F0 H1) ∧ eg T n M G0 c0 O N off voff ph cx cb A B i ls cs w s nw ns np cS (t + 1) ((17, ln, pos, m) :: W) L P Q H1 K0 i1 ls1 cs1 w1 s1 nw1 ns1 np1 (0 :: kx :: 0 :: c) ∧ cy T n G0 c0 O i1 cs1 (s1 + 1) ns1 np1 N Q K ∧ bz N off voff ph cx (0 :: c) np1 H1 ls1 K cs1 ∧ cI K s1 14 0 0 v2 ∧ qf s1 ns1 K0 K ∧ ((kx = 0 ∧ v2 = ln) ∨ kx = 4) ∧ (i < i1 ∧ w1 + 6 * i + 6 ≤ w + 6 * i1 ∧ s1 + 4 * i + 4 ≤ s + 4 * i1 ∧ nw1 + i ≤ nw + i1 ∧ ns1 + i ≤ ns + i1)
/-- from behind = on -/
theorem kv_end {D k pos m kx ln v2 : Nat} (hM : tk_M T n M) (hE : E_ok nn T n M G0 c0 O (D + 2)) (hk : 20 * (22 - (D + 2)) + 20 ≤ k) (htD : t = D) (hD : D ≤ 19) (hr : ry T n M i ls (t + 1) w nw np ((3, 0, 0, 0) :: (17, ln, pos, m) :: W) L P F) (hc : cy T n G0 c0 O i cs s ns np N Q G) (hb : bz N off voff ph cx (kx :: 0 :: c) np F ls G cs) (hn : 10000 < nn) (hc0 : c0.length ≤ 1400) (hO : O ≤ 20000) (hB : bnd i w s nw ns np (t + 1) (hg (kx :: 0 :: c)) ((17, ln, pos, m) :: W) L P Q N) (hkx : (kx = 0 ∧ v2 = ln) ∨ kx = 4) :
    wok ((dk_R nn k 148 [0, (D + 2) % 4294967296] G).bind fun y5 => (dk_112 y5.2 14 0 v2 4294967294).bind fun y9 => some (0, y9.2)) (fun _ K => (∃ i1 w1 s1 nw1 ns1 np1 ls1 cs1 H1 K0, (rm_to nn F H1 ∧ rm_fr F H1) ∧ eg T n M G0 c0 O N off voff ph cx cb F G i ls cs w s nw ns np (kx :: 0 :: c) (t + 1) ((17, ln, pos, m) :: W) L P Q H1 K0 i1 ls1 cs1 w1 s1 nw1 ns1 np1 (0 :: kx :: 0 :: c) ∧ cy T n G0 c0 O i1 cs1 (s1 + 1) ns1 np1 N Q K ∧ bz N off voff ph cx (0 :: c) np1 H1 ls1 K cs1 ∧ cI K s1 14 0 0 v2 ∧ qf s1 ns1 K0 K ∧ rts i w s nw ns i1 w1 s1 nw1 ns1) ∨ ∃ e p, rm_out nn e p F ∧ sx T n G0 c0 O e p N (zz (D + 2) + 71) K) := by
  subst htD
  have hB0 := hB
  obtain ⟨m1, m2, m3, m4, m5, m6, m7, m8, m9, m10, m11, m12⟩ := hB0
  have hM1 := hM.1
  have hz : zz (t + 2) < 9800 := by unfold zz; omega
  have hgk : hg (kx :: 0 :: c) = hg c + 2 := by
    rcases hkx with ⟨e, _⟩ | e
    · rw [e, hg_0, hg_0]
    · rw [e, hg_3 (by decide), hg_0]
  rw [Nat.mod_eq_of_lt (show t + 2 < 4294967296 by omega)]
  refine wok_b (hE k 0 0 i (t + 1) w s nw ns np N off voff ph cx (kx :: 0 :: c) cb ((17, ln, pos, m) :: W) L P Q ls cs F G hk (Or.inl ⟨rfl, by decide⟩) rfl hr hc hb hB) fun r1 K1 h1 => ?_
  dsimp only
  rcases h1 with ⟨i1, w1, s1, nw1, ns1, np1, ls1, cs1, H1, g1, eg1, rt, ho⟩ | ⟨e, p, ho, hx⟩
  · have rt0 := rt
    obtain ⟨rt1, rt2, rt3, rt4, rt5⟩ := rt
    have hi1 := eg1.1.1.2.2.1
    have lt5 : ∀ e ∈ [0, kx, 0], e < 5 := fun e he => by
      rcases List.mem_cons.mp he with z | he
      · omega
      rcases List.mem_cons.mp he with z | he
      · omega
      · have := List.mem_singleton.mp he; omega
    refine wok_b (cy_112 (d := 0 :: c) eg1.2.1 eg1.2.2.1 (by omega) (by rw [hg_0, hg_0, hgk]; omega) (fun k _ _ h => cx_at_c (cx_at_dn (a := [0, kx, 0]) lt5 h)) (fun e he => by
      rcases List.mem_cons.mp he with z | z
      · omega
      · exact bz_cd eg1.2.2.1 (a := [0, kx, 0]) rfl e z)) fun r K hK => ?_
    dsimp only
    obtain ⟨k1, k2, k3, k4, k5⟩ := hK
    exact wok_r (Or.inl ⟨i1, w1, s1, nw1, ns1, np1, ls1, cs1, H1, K1, g1, eg1, k1, k2, k3, k4, rt0⟩)
  · refine wok_b (sx_112 hx (by omega)) fun r K h => ?_
    exact wok_r (Or.inr ⟨e, p, ho, h⟩)
end
