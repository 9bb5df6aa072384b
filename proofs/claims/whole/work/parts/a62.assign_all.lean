/-! ===== a62: an assignment: its places (wip/whole2/lawa62.py) ===== -/
section
variable {nn : Nat} {T : Nat → Nat} {n M O : Nat} {G0 : wq_F} {c0 : List (List Nat)} {i t w s nw ns np N : Nat} {off voff ph : Nat → Nat} {cx : Nat → List Nat} {c cb : List Nat} {W : List (Nat × Nat × Nat × Nat)} {L : List (Nat × Nat)} {P Q : List (Nat × Nat × Nat)} {ls cs : List (List Nat)} {F G : wq_F}

variable {i0 w0 s0 nw0 ns0 np0 : Nat} {ls0 cs0 : List (List Nat)} {A B : wq_F}
/-- the reference behind a place that it noted -/
def a32 (F : wq_F) (v1 : Nat) : Option (Nat × wq_F) :=
    (dk_36 F 61).bind fun y20 =>
    if y20.1 = 0 then
      (dk_212 y20.2).bind fun y25 =>
      if y25.1 = 0 then
        some (0, y25.2)
      else
        od_g (y25.2 0 25 < 1502) <|
        if (y25.2 9 (y25.2 0 25)) = 1 then
          dk_256_200 y25.2 v1
        else
          (dk_36 y25.2 40).bind fun y32 =>
          if y32.1 = 0 then
            (dk_211 y32.2).bind fun y37 =>
            some (y37.1, y37.2)
          else
            dk_256_200 y32.2 v1
    else
      (dk_215 y20.2).bind fun y41 =>
      (dk_212 y41.2).bind fun y45 =>
      if y45.1 = 0 then
        some (0, y45.2)
      else
        (dk_217 y45.2).bind fun y50 =>
        if y50.1 = 0 then
          (dk_211 y50.2).bind fun y71 =>
          some (y71.1, y71.2)
        else
          (dk_30 y50.2 14 0 0 0).bind fun y55 =>
          (dk_31 y55.2 22 v1 y41.1 0).bind fun y59 =>
          (dk_31 y59.2 14 0 0 0).bind fun y63 =>
          (dk_31 y63.2 3 0 0 0).bind fun y67 =>
          some (1, y67.2)
/-- a place noted: the reference, the class -/
theorem as_ref (hr : ry T n M i ls t w nw np W L P F) (hP : P.length < 600) {v1 : Nat} : dk_256_32 F v1 1 = a32 (wq_up (wq_up (wq_up (wq_up F 35 P.length (F 0 61)) 36 P.length (F 0 62)) 37 P.length (F 0 63)) 0 60 (P.length + 1)) v1 := by
  have h60 : F 0 60 = P.length := hr.2.2.2.2.1
  unfold dk_256_32
  rw [if_neg (by decide), h60, od_g1 hP, od_upS, wq_up_cell (by decide), h60, od_g1 hP, wq_up_cell (by decide), od_upS, wq_up_cell (by decide), wq_up_cell (by decide), h60, od_g1 hP, wq_up_cell (by decide), wq_up_cell (by decide), od_upS, wq_up_cell (by decide), wq_up_cell (by decide), wq_up_cell (by decide), h60, Nat.mod_eq_of_lt (show P.length + 1 < 4294967296 by omega), od_letS, od_upS]
  rfl
theorem as_cls (hc : cy T n G0 c0 O i cs s ns np N Q G) (hQ : Q.length < 440) (h7 : G 56 7 < 2147483648) (ht : G 57 4 = 49 ∨ G 57 4 = 59) : dk_142 G = some (0, wq_up (wq_up (wq_up (wq_up G 58 (3 * Q.length) (G 56 7)) 58 (3 * Q.length + 1) (G 56 8)) 58 (3 * Q.length + 2) (G 56 9)) 56 11 (3 * Q.length + 3)) := by
  have h11 : G 56 11 = 3 * Q.length := hc.2.2.1.1
  have e29 : dk_142_29 G 1 = some (0, wq_up (wq_up (wq_up (wq_up G 58 (3 * Q.length) (G 56 7)) 58 (3 * Q.length + 1) (G 56 8)) 58 (3 * Q.length + 2) (G 56 9)) 56 11 (3 * Q.length + 3)) := by
    unfold dk_142_29
    rw [if_neg (by decide), if_neg (by omega), h11, Nat.mod_eq_of_lt (show 3 * Q.length + 3 < 4294967296 by omega), if_neg (fun z => by have := (wd_slt (by decide) (by omega)).mp z; omega), od_g1 (by omega), od_upS, wq_up_cell (by decide), h11, Nat.mod_eq_of_lt (show 3 * Q.length + 1 < 4294967296 by omega), od_letS, od_g1 (by omega), wq_up_cell (by decide), od_upS, wq_up_cell (by decide), wq_up_cell (by decide), h11, Nat.mod_eq_of_lt (show 3 * Q.length + 2 < 4294967296 by omega), od_letS, od_g1 (by omega), wq_up_cell (by decide), wq_up_cell (by decide), od_upS, wq_up_cell (by decide), wq_up_cell (by decide), wq_up_cell (by decide), h11, Nat.mod_eq_of_lt (show 3 * Q.length + 3 < 4294967296 by omega), od_letS, od_upS]
  unfold dk_142
  rcases ht with z | z
  · rw [if_pos z, e29]
  · rw [if_neg (by omega), if_pos z, e29]
/-- behind a chain, so many places noted -/
theorem as_ok {D k : Nat} (hM : tk_M T n M) (hn : 10000 < nn) (hc0 : c0.length ≤ 1400) (hO : O ≤ 20000) (hn2 : 14000 < nn) (hD : D ≤ 20) (hE : E_ok nn T n M G0 c0 O (D + 1)) (hT : Tb_ok nn T n M G0 c0 O D) (hkf : 20 * (22 - D) + 11 ≤ k) (htD : t = D) (h62 : ∀ l, l < N → B 62 l < np0) (hb0 : W.length ≤ 20 * t ∧ (L.length ≤ t ∧ ∀ e ∈ L, e.2 < N) ∧ P.length + 20 ≤ 20 * t ∧ Q.length + 20 ≤ 20 * t ∧ N ≤ t + 1 ∧ t ≤ 20) (hr0 : w0 ≤ 6 * i0 + 41 ∧ s0 ≤ 4 * i0 + 41 ∧ nw0 ≤ i0 ∧ ns0 ≤ i0 ∧ hg c ≤ 2 * i0 + 40) : ∀ (m g : Nat) (PA QA : List (Nat × Nat × Nat)) (i w s nw ns np w1 s1 nw1 ns1 np1 : Nat) (ls cs : List (List Nat)) (c' : List Nat) (F G A1 B1 : wq_F), PA.length + m = 19 → m + 1 < g → eg T n M G0 c0 O N off voff ph cx cb A B i0 ls0 cs0 w0 s0 nw0 ns0 np0 (1 :: c) t ((21, P.length, 0, 0) :: W) L (PA ++ P) (QA ++ Q) F G i ls cs w s nw ns np c' → tlr cb N A1 B1 w1 s1 nw1 ns1 np1 (List.replicate (2 * nx PA) 0 ++ 1 :: c) F G ls cs w s nw ns np c' → B1 62 (N - 1) = G 62 (N - 1) → plr (F 15 (G 62 (N - 1))) (1 :: c) ls cs PA QA → (PA = [] → ¬ F 0 61 = 4) → (i0 + 2 * PA.length + 1 ≤ i ∧ w + PA.length + 4 + 6 * i0 ≤ w0 + 6 * i ∧ s + PA.length + 2 + 4 * i0 ≤ s0 + 4 * i ∧ nw + i0 ≤ nw0 + i ∧ ns + i0 ≤ ns0 + i) → wok ((dk_142 G).bind fun y1 => dk_141_12 (dk_R nn k) nn g y1.2 D (hg c) (3 * Q.length) (PA.length + 1)) (fun _ K => (∃ i' w' s' nw' ns' np' ls' cs' H, (rm_to nn F H ∧ rm_fr F H) ∧ eg T n M G0 c0 O N off voff ph cx cb A B i0 ls0 cs0 w0 s0 nw0 ns0 np0 (1 :: c) t W L P Q H K i' ls' cs' w' s' nw' ns' np' c ∧ (i0 < i' ∧ w' + 3 + 6 * i0 ≤ w0 + 6 * i' ∧ s' + 2 + 4 * i0 ≤ s0 + 4 * i' ∧ nw' + i0 ≤ nw0 + i' ∧ ns' + i0 ≤ ns0 + i')) ∨ ∃ e p, rm_out nn e p F ∧ sx T n G0 c0 O e p N (zz D + 96) K) := by
  have hz : 6310 ≤ zz D ∧ zz D < 9800 ∧ zz (D + 1) + 110 = zz D := by unfold zz; omega
  have hM1 := hM.1
  have hb00 := hb0
  have hr00 := hr0
  obtain ⟨q1, q2, q3, q4, q5, q6⟩ := hb0
  obtain ⟨r1, r2, r3, r4, r5⟩ := hr0
  intro m
  induction m with
  | zero =>
    intro g PA QA i w s nw ns np w1 s1 nw1 ns1 np1 ls cs c' F G A1 B1 hm hgm h ht hB1 hp hcl rt
    obtain ⟨u0, u2, u3, u4, u5⟩ := rt
    have hiM := h.1.1.2.2.1
    have hnp := h.2.2.2.2.2.2
    have hN := h.2.2.1.1.1.1
    have hlen := plr_len hp
    have nl := nx_le (PA := PA)
    have hq62 := h.2.2.1.2.2.2.2.2.1
    have hPl : (PA ++ P).length = PA.length + P.length := List.length_append
    have hQl : (QA ++ Q).length = QA.length + Q.length := List.length_append
    have hgo := fun H => ry_go (nn := nn) (H := H) h.1 (by show W.length < 4000; omega)
    have hba := fun k p => ry_ba (nn := nn) (k := k) (p := p) h.1 (by show W.length < 4000; omega)
    have h33 : dk_32 nn (wq_up F 0 46 W.length) (21, P.length, 0, 0).1 (21, P.length, 0, 0).2.1 (21, P.length, 0, 0).2.2.1 (21, P.length, 0, 0).2.2.2 = dk_256 (wq_up F 0 46 W.length) P.length := by
      show dk_32 nn (wq_up F 0 46 W.length) 21 P.length 0 0 = _
      rw [dk32_21b (y := 0) (z := 0)]
    have e0 := e_pop (cb := cb) h.1 h.2.1 h.2.2.1 hnp
    have f0 : rm_fr F (wq_up F 0 46 W.length) := rm_fr_up (rm_fr_refl _) (by decide) (by decide)
    have x0 : ∀ d j, ¬ (d = 0 ∧ j = 46) → wq_up F 0 46 W.length d j = F d j := fun d j q => wq_up_ne q
    generalize dk_32 nn (wq_up F 0 46 W.length) (21, P.length, 0, 0).1 (21, P.length, 0, 0).2.1 (21, P.length, 0, 0).2.2.1 (21, P.length, 0, 0).2.2.2 = mm at *
    generalize wq_up F 0 46 W.length = F0 at *
    have k61 : F0 0 61 = F 0 61 := x0 0 61 (by decide)
    have k62 : F0 0 62 = F 0 62 := x0 0 62 (by decide)
    have k63 : F0 0 63 = F 0 63 := x0 0 63 (by decide)
    have k60 : F0 0 60 = PA.length + P.length := by rw [e0.1.2.2.2.2.1, hPl]
    have w0' : F0 0 41 = w := e0.1.2.1.2.1
    have h57 : G 57 4 = tk_ty T n (tk_pos T n i) := h.2.1.1.2.1.1
    have s49 := tk_ty_sign (T := T) (n := n) (p := tk_pos T n i) (c := 61) (by decide)
    have s59 := tk_ty_sign (T := T) (n := n) (p := tk_pos T n i) (c := 44) (by decide)
    have k11 : G 56 11 = 3 * (Q.length + PA.length) := by
      rw [h.2.1.2.2.1.1, hQl]; omega
    have h61 : F 0 61 ≤ 5 := by
      rcases ht with ⟨z, _⟩ | ⟨z, _⟩ | ⟨z, _⟩ | ⟨z, _⟩ | ⟨z, _⟩ | ⟨z, _⟩ <;> omega
    obtain ⟨g, rfl⟩ : ∃ a, g = a + 1 := ⟨g - 1, by omega⟩
    -- both refuse it here
    have bad : dk_256 F0 P.length = dk_211 F0 → (dk_142 G = (dk_109 G 2).bind fun y2 => some (0, y2.2)) → wok ((dk_142 G).bind fun y1 => dk_141_12 (dk_R nn k) nn (g + 1) y1.2 D (hg c) (3 * Q.length) (PA.length + 1)) (fun _ K => (∃ i' w' s' nw' ns' np' ls' cs' H, (rm_to nn F H ∧ rm_fr F H) ∧ eg T n M G0 c0 O N off voff ph cx cb A B i0 ls0 cs0 w0 s0 nw0 ns0 np0 (1 :: c) t W L P Q H K i' ls' cs' w' s' nw' ns' np' c ∧ (i0 < i' ∧ w' + 3 + 6 * i0 ≤ w0 + 6 * i' ∧ s' + 2 + 4 * i0 ≤ s0 + 4 * i' ∧ nw' + i0 ≤ nw0 + i' ∧ ns' + i0 ≤ ns0 + i')) ∨ ∃ e p, rm_out nn e p F ∧ sx T n G0 c0 O e p N (zz D + 96) K) := fun e1 e2 => by
      obtain ⟨a1, a2⟩ := bt_wr (B := 6240) hM e0.1 e0.2.1 e0.2.2.1 (by omega) (by omega) hnp (by omega)
      have ho := hba _ _ (rba_f (h33.trans (e1.trans a1)) f0 (by omega))
      rw [e2]
      refine wok_b (A := fun _ K => sx T n G0 c0 O (tk_wr T n i) (tk_pos T n i) N 6240 K ∧ K 56 11 = 3 * (Q.length + PA.length)) (wok_b (wok_pe a2 (pe_109 k11)) fun r K h => wok_r h) fun r K hx => ?_
      dsimp only
      exact wok_m (sx_12 hx.1 hx.2 (by omega) (by omega) (by omega) hn (by omega)) fun r K h => Or.inr ⟨_, _, ho, sx_le h (by omega)⟩
    have e13 : dk_256 F0 P.length = dk_256_13 F0 P.length (if 3 < F 0 61 then 0 else 1) := by
      unfold dk_256
      rw [k61]
      by_cases z : 3 < F 0 61
      · rw [if_pos z, if_pos ((wd_slt (by decide) (by omega)).mpr z)]
      · rw [if_neg z, if_neg (fun y => z ((wd_slt (by decide) (by omega)).mp y))]
    by_cases p1 : tk_k T n i = 5 ∧ (tk_V T n (tk_pos T n i) = 61 ∨ tk_V T n (tk_pos T n i) = 44)
    rotate_left
    · -- no sign that makes it a place
      have n1 : ¬ (tk_k T n i = 5 ∧ tk_V T n (tk_pos T n i) = 61) := fun z => p1 ⟨z.1, Or.inl z.2⟩
      have n2 : ¬ (tk_k T n i = 5 ∧ tk_V T n (tk_pos T n i) = 44) := fun z => p1 ⟨z.1, Or.inr z.2⟩
      refine bad ?_ ?_
      · rw [e13]
        unfold dk_256_13
        rw [pm_isSign hM e0.1.1 (by decide), od_bS]
        dsimp only
        rw [if_neg n1, if_pos rfl, pm_isSign hM e0.1.1 (by decide), od_bS]
        dsimp only
        rw [if_neg n2, if_pos rfl]
        by_cases z : F 0 61 = 4
        · have hne : 1 ≤ PA.length := by
            cases PA with
            | nil => exact absurd z (hcl rfl)
            | cons _ _ => exact Nat.succ_pos _
          rw [if_pos (show F0 0 61 = 4 from k61.trans z), if_pos (show ev_s P.length < ev_s (F0 0 60) from (wd_slt (by omega) (by omega)).mpr (by omega)), od_bI]
        · rw [if_neg (show ¬ F0 0 61 = 4 from fun y => z (k61.symm.trans y)), od_bI]
      · unfold dk_142
        rw [if_neg (show ¬ G 57 4 = 49 from fun z => n1 (s49.mp (h57.symm.trans z))), if_neg (show ¬ G 57 4 = 59 from fun z => n2 (s59.mp (h57.symm.trans z)))]
        unfold dk_142_29
        rw [if_pos rfl]
    have hty : G 57 4 = 49 ∨ G 57 4 = 59 := by
      rcases p1.2 with z | z
      · exact Or.inl (h57.trans (s49.mpr ⟨p1.1, z⟩))
      · exact Or.inr (h57.trans (s59.mpr ⟨p1.1, z⟩))
    have e32 : ∀ v, dk_256_13 F0 P.length v = dk_256_32 F0 P.length v := fun v => by
      unfold dk_256_13
      rw [pm_isSign hM e0.1.1 (by decide), od_bS]
      dsimp only
      rw [if_ck]
      by_cases z : tk_k T n i = 5 ∧ tk_V T n (tk_pos T n i) = 61
      · rw [if_pos z]
      · rw [if_neg z, pm_isSign hM e0.1.1 (by decide), od_bS]
        dsimp only
        rw [if_ck, if_pos ⟨p1.1, p1.2.resolve_left (fun y => z ⟨p1.1, y⟩)⟩]
    rw [e32] at e13
    by_cases p2 : 3 < F 0 61
    · -- no place
      rw [if_pos p2] at e13
      refine bad ?_ ?_
      · rw [e13]
        unfold dk_256_32
        rw [if_pos rfl, od_bI]
      · have h7 : 2147483648 ≤ G 56 7 := by
          rcases ht with ⟨z, _⟩ | ⟨z, _⟩ | ⟨z, _⟩ | ⟨z, _⟩ | ⟨_, z, _⟩ | ⟨_, z, _⟩
          · omega
          · omega
          · omega
          · omega
          · rw [z]; decide
          · rw [z]; decide
        have e29 : dk_142_29 G 1 = (dk_109 G 2).bind fun y2 => some (0, y2.2) := by
          unfold dk_142_29
          rw [if_neg (by decide), if_pos h7]
        unfold dk_142
        rcases hty with z | z
        · rw [if_pos z, e29]
        · rw [if_neg (by omega), if_pos z, e29]
    rw [if_neg p2, as_ref e0.1 (by rw [hPl]; omega)] at e13
    have h7 : G 56 7 < 2147483648 := by
      rcases ht with ⟨_, z, _⟩ | ⟨_, z, _⟩ | ⟨_, z, _⟩ | ⟨_, z, _⟩ | ⟨z, _⟩ | ⟨z, _⟩
      · omega
      · omega
      · omega
      · omega
      · omega
      · omega
    rw [as_cls h.2.1 (by rw [hQl]; omega) h7 hty, od_bS]
    dsimp only
    -- noted
    have r2' := ry_pp (a := F0 0 61) (b := F0 0 62) (d := F0 0 63) e0.1
    have c2' := cy_pp (a := G 56 7) (b := G 56 8) (d := G 56 9) h.2.1
    have f2 : rm_fr F (wq_up (wq_up (wq_up (wq_up F0 35 (PA ++ P).length (F0 0 61)) 36 (PA ++ P).length (F0 0 62)) 37 (PA ++ P).length (F0 0 63)) 0 60 ((PA ++ P).length + 1)) := rm_fr_up (rm_fr_up (rm_fr_up (rm_fr_up f0 (by decide) (fun z => absurd z (by decide))) (by decide) (fun z => absurd z (by decide))) (by decide) (fun z => absurd z (by decide))) (by decide) (by decide)
    have b2' : bz N off voff ph cx c' np (wq_up (wq_up (wq_up (wq_up F0 35 (PA ++ P).length (F0 0 61)) 36 (PA ++ P).length (F0 0 62)) 37 (PA ++ P).length (F0 0 63)) 0 60 ((PA ++ P).length + 1)) ls (wq_up (wq_up (wq_up (wq_up G 58 (3 * (QA ++ Q).length) (G 56 7)) 58 (3 * (QA ++ Q).length + 1) (G 56 8)) 58 (3 * (QA ++ Q).length + 2) (G 56 9)) 56 11 (3 * (QA ++ Q).length + 3)) cs := bz_gu (bz_gu (bz_gu (bz_gu (bz_fu (bz_fu (bz_fu (bz_fu e0.2.2.1 (by omega)) (by omega)) (by omega)) (by omega)) (by omega)) (by omega)) (by omega)) (by omega)
    have x2 : ∀ d j, ¬ d = 0 → ¬ (35 ≤ d ∧ d ≤ 37) → wq_up (wq_up (wq_up (wq_up F0 35 (PA ++ P).length (F0 0 61)) 36 (PA ++ P).length (F0 0 62)) 37 (PA ++ P).length (F0 0 63)) 0 60 ((PA ++ P).length + 1) d j = F d j := fun d j y1 y2 => by
      rw [wq_up_cell y1, wq_up_cell (by omega), wq_up_cell (by omega), wq_up_cell (by omega), x0 d j (by omega)]
    have z2 : ∀ d j, ¬ d = 58 → ¬ d = 56 → wq_up (wq_up (wq_up (wq_up G 58 (3 * (QA ++ Q).length) (G 56 7)) 58 (3 * (QA ++ Q).length + 1) (G 56 8)) 58 (3 * (QA ++ Q).length + 2) (G 56 9)) 56 11 (3 * (QA ++ Q).length + 3) d j = G d j := fun d j y1 y2 => by
      rw [wq_up_cell y2, wq_up_cell y1, wq_up_cell y1, wq_up_cell y1]
    generalize wq_up (wq_up (wq_up (wq_up F0 35 (PA ++ P).length (F0 0 61)) 36 (PA ++ P).length (F0 0 62)) 37 (PA ++ P).length (F0 0 63)) 0 60 ((PA ++ P).length + 1) = F2 at *
    generalize wq_up (wq_up (wq_up (wq_up G 58 (3 * (QA ++ Q).length) (G 56 7)) 58 (3 * (QA ++ Q).length + 1) (G 56 8)) 58 (3 * (QA ++ Q).length + 2) (G 56 9)) 56 11 (3 * (QA ++ Q).length + 3) = G2 at *
    have E2 : eg T n M G0 c0 O N off voff ph cx cb F G i ls cs w s nw ns np c' t W L ((F0 0 61, F0 0 62, F0 0 63) :: (PA ++ P)) ((G 56 7, G 56 8, G 56 9) :: (QA ++ Q)) F2 G2 i ls cs w s nw ns np c' := eg_n r2' c2' b2' (fun d j q => x2 d j (by omega) (by omega)) (fun d j q => z2 d j (by omega) (by omega)) (st_pre_refl _) (Nat.le_refl _) hnp
    rw [k61, k62, k63] at E2
    have hcA : hg (List.replicate (2 * nx PA) 0 ++ 1 :: c) = 2 * nx PA + hg c := by rw [hg_app, hg_rep, hg_1]
    -- the new place on both sides
    obtain ⟨PB, QB, ePB, eQB, ec', hpB⟩ : ∃ PB QB, PB = (F 0 61, F 0 62, F 0 63) :: PA ∧ QB = (G 56 7, G 56 8, G 56 9) :: QA ∧ c' = (List.replicate (2 * nx PB) 0 ++ 1 :: c) ∧ plr (F2 15 (G2 62 (N - 1))) (1 :: c) ls cs PB QB := by
      refine ⟨_, _, rfl, rfl, ?_, ?_, ?_⟩
      · show c' = List.replicate (2 * ((if F 0 61 = 3 then 1 else 0) + nx PA)) 0 ++ 1 :: c
        rcases ht with ⟨t1, _, t3, _⟩ | ⟨t1, _, t3, _⟩ | ⟨t1, _, t3, _⟩ | ⟨t1, _, t3, _⟩ | ⟨t1, _⟩ | ⟨t1, _⟩
        · rw [t3, if_neg (by omega), Nat.zero_add]
        · rw [t3, if_neg (by omega), Nat.zero_add]
        · rw [t3, if_neg (by omega), Nat.zero_add]
        · rw [t3, if_pos t1, show 2 * (1 + nx PA) = 2 * nx PA + 1 + 1 by omega]
          rfl
        · omega
        · omega
      · rcases ht with ⟨t1, t2, t3, t4⟩ | ⟨t1, t2, t3, t4, t5⟩ | ⟨t1, t2, t3, t4, t5, t6⟩ | ⟨t1, t2, t3, t4, t5⟩ | ⟨t1, _⟩ | ⟨t1, _⟩
        · exact Or.inl ⟨t1, t2, cx_at_dn (a := List.replicate (2 * nx PA) 0) (fun e he => by rw [rep_lt he]; decide) t4⟩
        · refine Or.inr (Or.inl ⟨t1, t2, t4, ?_⟩)
          rw [x2 15 _ (by decide) (by decide), z2 62 _ (by decide) (by decide), ← hB1]
          exact t5
        · exact Or.inr (Or.inr (Or.inl ⟨t1, t2, t4, t5, t6⟩))
        · refine Or.inr (Or.inr (Or.inr ⟨t1, t2, ?_, t5⟩))
          show G 56 8 = hg (1 :: c) + 2 * nx PA
          rw [t4, hcA, hg_1]
          omega
        · omega
        · omega
      · rw [x2 15 _ (by decide) (by decide), z2 62 _ (by decide) (by decide)]
        exact hp
    have hlB : PB.length = PA.length + 1 := by rw [ePB]; rfl
    have hlQ : QB.length = PA.length + 1 := by rw [eQB, hlen]; rfl
    have nB := nx_le (PA := PB)
    have hcB : hg (List.replicate (2 * nx PB) 0 ++ 1 :: c) = 2 * nx PB + hg c := by rw [hg_app, hg_rep, hg_1]
    rw [show (F 0 61, F 0 62, F 0 63) :: (PA ++ P) = PB ++ P by rw [ePB]; rfl, show (G 56 7, G 56 8, G 56 9) :: (QA ++ Q) = QB ++ Q by rw [eQB]; rfl] at E2
    have hE2 := eg_t h E2 h62
    subst ec'
    have hPBl : (PB ++ P).length = PB.length + P.length := List.length_append
    have hQBl : (QB ++ Q).length = QB.length + Q.length := List.length_append
    have k211 : G2 56 11 = 3 * (Q.length + QB.length) := by
      rw [E2.2.1.2.2.1.1, hQBl]; omega
    have h257 : G2 57 4 = tk_ty T n (tk_pos T n i) := (z2 57 4 (by decide) (by decide)).trans h57
    show wok (dk_141_12b (dk_R nn k) nn (dk_141_12 (dk_R nn k) nn g) G2 D (hg c) (3 * Q.length) (PA.length + 1)) _
    unfold dk_141_12b
    refine wok_f (fun z => by have := (wd_slt (by decide) (by omega)).mp z; omega) ?_
    unfold a32 at e13
    rw [pm_isSign hM E2.1.1 (by decide), od_bS] at e13
    dsimp only at e13
    rw [if_ck] at e13
    by_cases p3 : tk_k T n i = 5 ∧ tk_V T n (tk_pos T n i) = 61
    · -- =
      have n44 : ¬ (tk_k T n i = 5 ∧ tk_V T n (tk_pos T n i) = 44) := fun z => by
        have := z.2
        have := p3.2
        omega
      rw [if_pos p3, pm_line hM E2.1.1, od_bS] at e13
      dsimp only at e13
      refine wok_f (fun z => n44 (s59.mp (h257.symm.trans z))) ?_
      refine wok_m (as_row (FA := F) PB QB hM hn hc0 hO hn2 hD hE hkf htD h62 hb00 hr00 ⟨by omega, by omega⟩ hE2 hpB ⟨by omega, by omega, by omega, by omega, by omega, by omega⟩ p3 f2 (h33.trans e13)) fun r K hK => ?_
      rcases hK with ⟨i', w', s', nw', ns', np', ls', cs', H, g', E', y⟩ | ⟨e, p, ho, hx⟩
      · exact Or.inl ⟨i', w', s', nw', ns', np', ls', cs', H, hgo H g', E', y⟩
      · exact Or.inr ⟨e, p, hba e p ho, sx_le hx (by omega)⟩
    -- ,
    have p44 : tk_k T n i = 5 ∧ tk_V T n (tk_pos T n i) = 44 := ⟨p1.1, p1.2.resolve_left (fun y => p3 ⟨p1.1, y⟩)⟩
    rw [if_neg p3] at e13
    refine wok_t (h257.trans (s59.mpr p44)) ?_
    refine wok_b (wok_pe (e_77 (cb := cb) (B := 6240) hM E2.1 E2.2.1 E2.2.2.1 (by omega) (by omega) hn hc0 hO (by omega) (by omega) hnp (by omega)) (pe_77 k211)) fun r3 K3 h3 => ?_
    dsimp only
    obtain ⟨h3, k311⟩ := h3
    rcases h3 with ⟨ms, iM, e3, E3, f3⟩ | ⟨e3, hx⟩
    rotate_left
    · rw [e3, od_bS] at e13
      have ho := hba _ _ (rba_f (h33.trans (e13.trans (if_pos rfl))) f2 (by rw [E2.1.2.1.2.1]; omega))
      refine wok_f (sx_ne hx (by decide)) (wok_f (sx_ne hx (by decide)) ?_)
      rw [px_refused hx.1, od_bS]
      refine wok_l ?_
      obtain ⟨g, rfl⟩ : ∃ a, g = a + 1 := ⟨g - 1, by omega⟩
      exact wok_m (sx_12 hx k311 (by omega) (by omega) (by omega) hn (by omega)) fun r K h => Or.inr ⟨_, _, ho, sx_le h (by omega)⟩
    rw [e3, od_bS] at e13
    dsimp only at e13
    have ff3 : rm_fr F (wq_up F2 0 25 (i + 1)) := rm_fr_up f2 (by decide) (by decide)
    have x3 : ∀ d j, ¬ d = 0 → wq_up F2 0 25 (i + 1) d j = F2 d j := fun d j q => wq_up_cell q
    generalize wq_up F2 0 25 (i + 1) = F3 at *
    have hkd := pm_kind E3.1.1
    rw [if_neg (by decide), od_g1 (pm_b hM E3.1.1)] at e13
    have h357 : K3 57 4 = tk_ty T n (tk_pos T n (i + 1)) := E3.2.1.1.2.1.1
    have s51 := tk_ty_sign (T := T) (n := n) (p := tk_pos T n (i + 1)) (c := 40) (by decide)
    have w3 : F3 0 41 = w := E3.1.2.1.2.1
    by_cases p4 : tk_k T n (i + 1) = 1 ∨ (tk_k T n (i + 1) = 5 ∧ tk_V T n (tk_pos T n (i + 1)) = 40)
    rotate_left
    · have n1 : ¬ tk_k T n (i + 1) = 1 := fun z => p4 (Or.inl z)
      have n2 : ¬ (tk_k T n (i + 1) = 5 ∧ tk_V T n (tk_pos T n (i + 1)) = 40) := fun z => p4 (Or.inr z)
      obtain ⟨a1, a2⟩ := bt_wr (B := 6250) hM E3.1 E3.2.1 E3.2.2.1 (by omega) (by omega) hnp (by omega)
      rw [if_neg (fun z => n1 (hkd.symm.trans z)), pm_isSign hM E3.1.1 (by decide), od_bS] at e13
      dsimp only at e13
      rw [if_neg n2, if_pos rfl, a1, od_bS] at e13
      have ho := hba _ _ (rba_f (h33.trans e13) ff3 (by omega))
      refine wok_f (fun z => n1 (tk_ty_kind.1.mp (h357.symm.trans z))) (wok_f (fun z => n2 (s51.mp (h357.symm.trans z))) ?_)
      refine wok_b (wok_pe a2 (pe_109 k311)) fun r K hx => ?_
      refine wok_l ?_
      obtain ⟨g, rfl⟩ : ∃ a, g = a + 1 := ⟨g - 1, by omega⟩
      exact wok_m (sx_12 hx.1 hx.2 (by omega) (by omega) (by omega) hn (by omega)) fun r K h => Or.inr ⟨_, _, ho, sx_le h (by omega)⟩
    have e200 : mm = dk_256_200 F3 P.length := by
      rw [h33, e13]
      by_cases z : tk_k T n (i + 1) = 1
      · rw [if_pos (hkd.trans z)]
      · rw [if_neg (fun y => z (hkd.symm.trans y)), pm_isSign hM E3.1.1 (by decide), od_bS]
        dsimp only
        rw [if_pos (p4.resolve_left z), if_neg (by decide)]
    have c66 : ∀ {X : Nat → wq_F → Prop}, wok (dk_141_66 (dk_R nn k) nn (dk_141_12 (dk_R nn k) nn g) K3 D (hg c) (3 * Q.length) (PA.length + 1)) X → wok (if (K3 57 4) = 2 then dk_141_66 (dk_R nn k) nn (dk_141_12 (dk_R nn k) nn g) K3 D (hg c) (3 * Q.length) (PA.length + 1) else if (K3 57 4) = 51 then dk_141_66 (dk_R nn k) nn (dk_141_12 (dk_R nn k) nn g) K3 D (hg c) (3 * Q.length) (PA.length + 1) else (dk_109 K3 2).bind fun y9 => od_let ((PA.length + 1 + 1) % 4294967296) fun y13 => dk_141_12 (dk_R nn k) nn g y9.2 D (hg c) (3 * Q.length) y13) X := fun {X} hX => by
      by_cases z : tk_k T n (i + 1) = 1
      · exact wok_t (h357.trans (tk_ty_kind.1.mpr z)) hX
      · exact wok_f (fun y => z (tk_ty_kind.1.mp (h357.symm.trans y))) (wok_t (h357.trans (s51.mpr (p4.resolve_left z))) hX)
    refine c66 ?_
    unfold dk_256_200 at e200
    have k360 : F3 0 60 = PA.length + 1 + P.length := by rw [E3.1.2.2.2.2.1, hPBl, hlB]
    rw [k360, show (PA.length + 1 + P.length + (4294967296 - P.length)) % 4294967296 = PA.length + 1 by omega, od_letS] at e200
    unfold dk_141_66
    have hl : PA.length + 1 = 20 := by omega
    obtain ⟨a1, a2⟩ := bt_f3 (B := 6250) hM E3.1 E3.2.1 E3.2.2.1 (by omega) (by omega) hnp (by omega)
    rw [if_pos hl, pm_here hM E3.1.1, od_bS] at e200
    dsimp only at e200
    rw [a1, od_bS] at e200
    have ho := hba _ _ (rba_f e200 ff3 (by omega))
    refine wok_t hl ?_
    refine wok_b (wok_pe a2 (pe_109 k311)) fun r K hx => ?_
    refine wok_l ?_
    obtain ⟨g, rfl⟩ : ∃ a, g = a + 1 := ⟨g - 1, by omega⟩
    exact wok_m (sx_12 hx.1 hx.2 (by omega) (by omega) (by omega) hn (by omega)) fun r K h => Or.inr ⟨_, _, ho, sx_le h (by omega)⟩
  | succ m ih =>
    intro g PA QA i w s nw ns np w1 s1 nw1 ns1 np1 ls cs c' F G A1 B1 hm hgm h ht hB1 hp hcl rt
    obtain ⟨u0, u2, u3, u4, u5⟩ := rt
    have hiM := h.1.1.2.2.1
    have hnp := h.2.2.2.2.2.2
    have hN := h.2.2.1.1.1.1
    have hlen := plr_len hp
    have nl := nx_le (PA := PA)
    have hq62 := h.2.2.1.2.2.2.2.2.1
    have hPl : (PA ++ P).length = PA.length + P.length := List.length_append
    have hQl : (QA ++ Q).length = QA.length + Q.length := List.length_append
    have hgo := fun H => ry_go (nn := nn) (H := H) h.1 (by show W.length < 4000; omega)
    have hba := fun k p => ry_ba (nn := nn) (k := k) (p := p) h.1 (by show W.length < 4000; omega)
    have h33 : dk_32 nn (wq_up F 0 46 W.length) (21, P.length, 0, 0).1 (21, P.length, 0, 0).2.1 (21, P.length, 0, 0).2.2.1 (21, P.length, 0, 0).2.2.2 = dk_256 (wq_up F 0 46 W.length) P.length := by
      show dk_32 nn (wq_up F 0 46 W.length) 21 P.length 0 0 = _
      rw [dk32_21b (y := 0) (z := 0)]
    have e0 := e_pop (cb := cb) h.1 h.2.1 h.2.2.1 hnp
    have f0 : rm_fr F (wq_up F 0 46 W.length) := rm_fr_up (rm_fr_refl _) (by decide) (by decide)
    have x0 : ∀ d j, ¬ (d = 0 ∧ j = 46) → wq_up F 0 46 W.length d j = F d j := fun d j q => wq_up_ne q
    generalize dk_32 nn (wq_up F 0 46 W.length) (21, P.length, 0, 0).1 (21, P.length, 0, 0).2.1 (21, P.length, 0, 0).2.2.1 (21, P.length, 0, 0).2.2.2 = mm at *
    generalize wq_up F 0 46 W.length = F0 at *
    have k61 : F0 0 61 = F 0 61 := x0 0 61 (by decide)
    have k62 : F0 0 62 = F 0 62 := x0 0 62 (by decide)
    have k63 : F0 0 63 = F 0 63 := x0 0 63 (by decide)
    have k60 : F0 0 60 = PA.length + P.length := by rw [e0.1.2.2.2.2.1, hPl]
    have w0' : F0 0 41 = w := e0.1.2.1.2.1
    have h57 : G 57 4 = tk_ty T n (tk_pos T n i) := h.2.1.1.2.1.1
    have s49 := tk_ty_sign (T := T) (n := n) (p := tk_pos T n i) (c := 61) (by decide)
    have s59 := tk_ty_sign (T := T) (n := n) (p := tk_pos T n i) (c := 44) (by decide)
    have k11 : G 56 11 = 3 * (Q.length + PA.length) := by
      rw [h.2.1.2.2.1.1, hQl]; omega
    have h61 : F 0 61 ≤ 5 := by
      rcases ht with ⟨z, _⟩ | ⟨z, _⟩ | ⟨z, _⟩ | ⟨z, _⟩ | ⟨z, _⟩ | ⟨z, _⟩ <;> omega
    obtain ⟨g, rfl⟩ : ∃ a, g = a + 1 := ⟨g - 1, by omega⟩
    -- both refuse it here
    have bad : dk_256 F0 P.length = dk_211 F0 → (dk_142 G = (dk_109 G 2).bind fun y2 => some (0, y2.2)) → wok ((dk_142 G).bind fun y1 => dk_141_12 (dk_R nn k) nn (g + 1) y1.2 D (hg c) (3 * Q.length) (PA.length + 1)) (fun _ K => (∃ i' w' s' nw' ns' np' ls' cs' H, (rm_to nn F H ∧ rm_fr F H) ∧ eg T n M G0 c0 O N off voff ph cx cb A B i0 ls0 cs0 w0 s0 nw0 ns0 np0 (1 :: c) t W L P Q H K i' ls' cs' w' s' nw' ns' np' c ∧ (i0 < i' ∧ w' + 3 + 6 * i0 ≤ w0 + 6 * i' ∧ s' + 2 + 4 * i0 ≤ s0 + 4 * i' ∧ nw' + i0 ≤ nw0 + i' ∧ ns' + i0 ≤ ns0 + i')) ∨ ∃ e p, rm_out nn e p F ∧ sx T n G0 c0 O e p N (zz D + 96) K) := fun e1 e2 => by
      obtain ⟨a1, a2⟩ := bt_wr (B := 6240) hM e0.1 e0.2.1 e0.2.2.1 (by omega) (by omega) hnp (by omega)
      have ho := hba _ _ (rba_f (h33.trans (e1.trans a1)) f0 (by omega))
      rw [e2]
      refine wok_b (A := fun _ K => sx T n G0 c0 O (tk_wr T n i) (tk_pos T n i) N 6240 K ∧ K 56 11 = 3 * (Q.length + PA.length)) (wok_b (wok_pe a2 (pe_109 k11)) fun r K h => wok_r h) fun r K hx => ?_
      dsimp only
      exact wok_m (sx_12 hx.1 hx.2 (by omega) (by omega) (by omega) hn (by omega)) fun r K h => Or.inr ⟨_, _, ho, sx_le h (by omega)⟩
    have e13 : dk_256 F0 P.length = dk_256_13 F0 P.length (if 3 < F 0 61 then 0 else 1) := by
      unfold dk_256
      rw [k61]
      by_cases z : 3 < F 0 61
      · rw [if_pos z, if_pos ((wd_slt (by decide) (by omega)).mpr z)]
      · rw [if_neg z, if_neg (fun y => z ((wd_slt (by decide) (by omega)).mp y))]
    by_cases p1 : tk_k T n i = 5 ∧ (tk_V T n (tk_pos T n i) = 61 ∨ tk_V T n (tk_pos T n i) = 44)
    rotate_left
    · -- no sign that makes it a place
      have n1 : ¬ (tk_k T n i = 5 ∧ tk_V T n (tk_pos T n i) = 61) := fun z => p1 ⟨z.1, Or.inl z.2⟩
      have n2 : ¬ (tk_k T n i = 5 ∧ tk_V T n (tk_pos T n i) = 44) := fun z => p1 ⟨z.1, Or.inr z.2⟩
      refine bad ?_ ?_
      · rw [e13]
        unfold dk_256_13
        rw [pm_isSign hM e0.1.1 (by decide), od_bS]
        dsimp only
        rw [if_neg n1, if_pos rfl, pm_isSign hM e0.1.1 (by decide), od_bS]
        dsimp only
        rw [if_neg n2, if_pos rfl]
        by_cases z : F 0 61 = 4
        · have hne : 1 ≤ PA.length := by
            cases PA with
            | nil => exact absurd z (hcl rfl)
            | cons _ _ => exact Nat.succ_pos _
          rw [if_pos (show F0 0 61 = 4 from k61.trans z), if_pos (show ev_s P.length < ev_s (F0 0 60) from (wd_slt (by omega) (by omega)).mpr (by omega)), od_bI]
        · rw [if_neg (show ¬ F0 0 61 = 4 from fun y => z (k61.symm.trans y)), od_bI]
      · unfold dk_142
        rw [if_neg (show ¬ G 57 4 = 49 from fun z => n1 (s49.mp (h57.symm.trans z))), if_neg (show ¬ G 57 4 = 59 from fun z => n2 (s59.mp (h57.symm.trans z)))]
        unfold dk_142_29
        rw [if_pos rfl]
    have hty : G 57 4 = 49 ∨ G 57 4 = 59 := by
      rcases p1.2 with z | z
      · exact Or.inl (h57.trans (s49.mpr ⟨p1.1, z⟩))
      · exact Or.inr (h57.trans (s59.mpr ⟨p1.1, z⟩))
    have e32 : ∀ v, dk_256_13 F0 P.length v = dk_256_32 F0 P.length v := fun v => by
      unfold dk_256_13
      rw [pm_isSign hM e0.1.1 (by decide), od_bS]
      dsimp only
      rw [if_ck]
      by_cases z : tk_k T n i = 5 ∧ tk_V T n (tk_pos T n i) = 61
      · rw [if_pos z]
      · rw [if_neg z, pm_isSign hM e0.1.1 (by decide), od_bS]
        dsimp only
        rw [if_ck, if_pos ⟨p1.1, p1.2.resolve_left (fun y => z ⟨p1.1, y⟩)⟩]
    rw [e32] at e13
    by_cases p2 : 3 < F 0 61
    · -- no place
      rw [if_pos p2] at e13
      refine bad ?_ ?_
      · rw [e13]
        unfold dk_256_32
        rw [if_pos rfl, od_bI]
      · have h7 : 2147483648 ≤ G 56 7 := by
          rcases ht with ⟨z, _⟩ | ⟨z, _⟩ | ⟨z, _⟩ | ⟨z, _⟩ | ⟨_, z, _⟩ | ⟨_, z, _⟩
          · omega
          · omega
          · omega
          · omega
          · rw [z]; decide
          · rw [z]; decide
        have e29 : dk_142_29 G 1 = (dk_109 G 2).bind fun y2 => some (0, y2.2) := by
          unfold dk_142_29
          rw [if_neg (by decide), if_pos h7]
        unfold dk_142
        rcases hty with z | z
        · rw [if_pos z, e29]
        · rw [if_neg (by omega), if_pos z, e29]
    rw [if_neg p2, as_ref e0.1 (by rw [hPl]; omega)] at e13
    have h7 : G 56 7 < 2147483648 := by
      rcases ht with ⟨_, z, _⟩ | ⟨_, z, _⟩ | ⟨_, z, _⟩ | ⟨_, z, _⟩ | ⟨z, _⟩ | ⟨z, _⟩
      · omega
      · omega
      · omega
      · omega
      · omega
      · omega
    rw [as_cls h.2.1 (by rw [hQl]; omega) h7 hty, od_bS]
    dsimp only
    -- noted
    have r2' := ry_pp (a := F0 0 61) (b := F0 0 62) (d := F0 0 63) e0.1
    have c2' := cy_pp (a := G 56 7) (b := G 56 8) (d := G 56 9) h.2.1
    have f2 : rm_fr F (wq_up (wq_up (wq_up (wq_up F0 35 (PA ++ P).length (F0 0 61)) 36 (PA ++ P).length (F0 0 62)) 37 (PA ++ P).length (F0 0 63)) 0 60 ((PA ++ P).length + 1)) := rm_fr_up (rm_fr_up (rm_fr_up (rm_fr_up f0 (by decide) (fun z => absurd z (by decide))) (by decide) (fun z => absurd z (by decide))) (by decide) (fun z => absurd z (by decide))) (by decide) (by decide)
    have b2' : bz N off voff ph cx c' np (wq_up (wq_up (wq_up (wq_up F0 35 (PA ++ P).length (F0 0 61)) 36 (PA ++ P).length (F0 0 62)) 37 (PA ++ P).length (F0 0 63)) 0 60 ((PA ++ P).length + 1)) ls (wq_up (wq_up (wq_up (wq_up G 58 (3 * (QA ++ Q).length) (G 56 7)) 58 (3 * (QA ++ Q).length + 1) (G 56 8)) 58 (3 * (QA ++ Q).length + 2) (G 56 9)) 56 11 (3 * (QA ++ Q).length + 3)) cs := bz_gu (bz_gu (bz_gu (bz_gu (bz_fu (bz_fu (bz_fu (bz_fu e0.2.2.1 (by omega)) (by omega)) (by omega)) (by omega)) (by omega)) (by omega)) (by omega)) (by omega)
    have x2 : ∀ d j, ¬ d = 0 → ¬ (35 ≤ d ∧ d ≤ 37) → wq_up (wq_up (wq_up (wq_up F0 35 (PA ++ P).length (F0 0 61)) 36 (PA ++ P).length (F0 0 62)) 37 (PA ++ P).length (F0 0 63)) 0 60 ((PA ++ P).length + 1) d j = F d j := fun d j y1 y2 => by
      rw [wq_up_cell y1, wq_up_cell (by omega), wq_up_cell (by omega), wq_up_cell (by omega), x0 d j (by omega)]
    have z2 : ∀ d j, ¬ d = 58 → ¬ d = 56 → wq_up (wq_up (wq_up (wq_up G 58 (3 * (QA ++ Q).length) (G 56 7)) 58 (3 * (QA ++ Q).length + 1) (G 56 8)) 58 (3 * (QA ++ Q).length + 2) (G 56 9)) 56 11 (3 * (QA ++ Q).length + 3) d j = G d j := fun d j y1 y2 => by
      rw [wq_up_cell y2, wq_up_cell y1, wq_up_cell y1, wq_up_cell y1]
    generalize wq_up (wq_up (wq_up (wq_up F0 35 (PA ++ P).length (F0 0 61)) 36 (PA ++ P).length (F0 0 62)) 37 (PA ++ P).length (F0 0 63)) 0 60 ((PA ++ P).length + 1) = F2 at *
    generalize wq_up (wq_up (wq_up (wq_up G 58 (3 * (QA ++ Q).length) (G 56 7)) 58 (3 * (QA ++ Q).length + 1) (G 56 8)) 58 (3 * (QA ++ Q).length + 2) (G 56 9)) 56 11 (3 * (QA ++ Q).length + 3) = G2 at *
    have E2 : eg T n M G0 c0 O N off voff ph cx cb F G i ls cs w s nw ns np c' t W L ((F0 0 61, F0 0 62, F0 0 63) :: (PA ++ P)) ((G 56 7, G 56 8, G 56 9) :: (QA ++ Q)) F2 G2 i ls cs w s nw ns np c' := eg_n r2' c2' b2' (fun d j q => x2 d j (by omega) (by omega)) (fun d j q => z2 d j (by omega) (by omega)) (st_pre_refl _) (Nat.le_refl _) hnp
    rw [k61, k62, k63] at E2
    have hcA : hg (List.replicate (2 * nx PA) 0 ++ 1 :: c) = 2 * nx PA + hg c := by rw [hg_app, hg_rep, hg_1]
    -- the new place on both sides
    obtain ⟨PB, QB, ePB, eQB, ec', hpB⟩ : ∃ PB QB, PB = (F 0 61, F 0 62, F 0 63) :: PA ∧ QB = (G 56 7, G 56 8, G 56 9) :: QA ∧ c' = (List.replicate (2 * nx PB) 0 ++ 1 :: c) ∧ plr (F2 15 (G2 62 (N - 1))) (1 :: c) ls cs PB QB := by
      refine ⟨_, _, rfl, rfl, ?_, ?_, ?_⟩
      · show c' = List.replicate (2 * ((if F 0 61 = 3 then 1 else 0) + nx PA)) 0 ++ 1 :: c
        rcases ht with ⟨t1, _, t3, _⟩ | ⟨t1, _, t3, _⟩ | ⟨t1, _, t3, _⟩ | ⟨t1, _, t3, _⟩ | ⟨t1, _⟩ | ⟨t1, _⟩
        · rw [t3, if_neg (by omega), Nat.zero_add]
        · rw [t3, if_neg (by omega), Nat.zero_add]
        · rw [t3, if_neg (by omega), Nat.zero_add]
        · rw [t3, if_pos t1, show 2 * (1 + nx PA) = 2 * nx PA + 1 + 1 by omega]
          rfl
        · omega
        · omega
      · rcases ht with ⟨t1, t2, t3, t4⟩ | ⟨t1, t2, t3, t4, t5⟩ | ⟨t1, t2, t3, t4, t5, t6⟩ | ⟨t1, t2, t3, t4, t5⟩ | ⟨t1, _⟩ | ⟨t1, _⟩
        · exact Or.inl ⟨t1, t2, cx_at_dn (a := List.replicate (2 * nx PA) 0) (fun e he => by rw [rep_lt he]; decide) t4⟩
        · refine Or.inr (Or.inl ⟨t1, t2, t4, ?_⟩)
          rw [x2 15 _ (by decide) (by decide), z2 62 _ (by decide) (by decide), ← hB1]
          exact t5
        · exact Or.inr (Or.inr (Or.inl ⟨t1, t2, t4, t5, t6⟩))
        · refine Or.inr (Or.inr (Or.inr ⟨t1, t2, ?_, t5⟩))
          show G 56 8 = hg (1 :: c) + 2 * nx PA
          rw [t4, hcA, hg_1]
          omega
        · omega
        · omega
      · rw [x2 15 _ (by decide) (by decide), z2 62 _ (by decide) (by decide)]
        exact hp
    have hlB : PB.length = PA.length + 1 := by rw [ePB]; rfl
    have hlQ : QB.length = PA.length + 1 := by rw [eQB, hlen]; rfl
    have nB := nx_le (PA := PB)
    have hcB : hg (List.replicate (2 * nx PB) 0 ++ 1 :: c) = 2 * nx PB + hg c := by rw [hg_app, hg_rep, hg_1]
    rw [show (F 0 61, F 0 62, F 0 63) :: (PA ++ P) = PB ++ P by rw [ePB]; rfl, show (G 56 7, G 56 8, G 56 9) :: (QA ++ Q) = QB ++ Q by rw [eQB]; rfl] at E2
    have hE2 := eg_t h E2 h62
    subst ec'
    have hPBl : (PB ++ P).length = PB.length + P.length := List.length_append
    have hQBl : (QB ++ Q).length = QB.length + Q.length := List.length_append
    have k211 : G2 56 11 = 3 * (Q.length + QB.length) := by
      rw [E2.2.1.2.2.1.1, hQBl]; omega
    have h257 : G2 57 4 = tk_ty T n (tk_pos T n i) := (z2 57 4 (by decide) (by decide)).trans h57
    show wok (dk_141_12b (dk_R nn k) nn (dk_141_12 (dk_R nn k) nn g) G2 D (hg c) (3 * Q.length) (PA.length + 1)) _
    unfold dk_141_12b
    refine wok_f (fun z => by have := (wd_slt (by decide) (by omega)).mp z; omega) ?_
    unfold a32 at e13
    rw [pm_isSign hM E2.1.1 (by decide), od_bS] at e13
    dsimp only at e13
    rw [if_ck] at e13
    by_cases p3 : tk_k T n i = 5 ∧ tk_V T n (tk_pos T n i) = 61
    · -- =
      have n44 : ¬ (tk_k T n i = 5 ∧ tk_V T n (tk_pos T n i) = 44) := fun z => by
        have := z.2
        have := p3.2
        omega
      rw [if_pos p3, pm_line hM E2.1.1, od_bS] at e13
      dsimp only at e13
      refine wok_f (fun z => n44 (s59.mp (h257.symm.trans z))) ?_
      refine wok_m (as_row (FA := F) PB QB hM hn hc0 hO hn2 hD hE hkf htD h62 hb00 hr00 ⟨by omega, by omega⟩ hE2 hpB ⟨by omega, by omega, by omega, by omega, by omega, by omega⟩ p3 f2 (h33.trans e13)) fun r K hK => ?_
      rcases hK with ⟨i', w', s', nw', ns', np', ls', cs', H, g', E', y⟩ | ⟨e, p, ho, hx⟩
      · exact Or.inl ⟨i', w', s', nw', ns', np', ls', cs', H, hgo H g', E', y⟩
      · exact Or.inr ⟨e, p, hba e p ho, sx_le hx (by omega)⟩
    -- ,
    have p44 : tk_k T n i = 5 ∧ tk_V T n (tk_pos T n i) = 44 := ⟨p1.1, p1.2.resolve_left (fun y => p3 ⟨p1.1, y⟩)⟩
    rw [if_neg p3] at e13
    refine wok_t (h257.trans (s59.mpr p44)) ?_
    refine wok_b (wok_pe (e_77 (cb := cb) (B := 6240) hM E2.1 E2.2.1 E2.2.2.1 (by omega) (by omega) hn hc0 hO (by omega) (by omega) hnp (by omega)) (pe_77 k211)) fun r3 K3 h3 => ?_
    dsimp only
    obtain ⟨h3, k311⟩ := h3
    rcases h3 with ⟨ms, iM, e3, E3, f3⟩ | ⟨e3, hx⟩
    rotate_left
    · rw [e3, od_bS] at e13
      have ho := hba _ _ (rba_f (h33.trans (e13.trans (if_pos rfl))) f2 (by rw [E2.1.2.1.2.1]; omega))
      refine wok_f (sx_ne hx (by decide)) (wok_f (sx_ne hx (by decide)) ?_)
      rw [px_refused hx.1, od_bS]
      refine wok_l ?_
      obtain ⟨g, rfl⟩ : ∃ a, g = a + 1 := ⟨g - 1, by omega⟩
      exact wok_m (sx_12 hx k311 (by omega) (by omega) (by omega) hn (by omega)) fun r K h => Or.inr ⟨_, _, ho, sx_le h (by omega)⟩
    rw [e3, od_bS] at e13
    dsimp only at e13
    have ff3 : rm_fr F (wq_up F2 0 25 (i + 1)) := rm_fr_up f2 (by decide) (by decide)
    have x3 : ∀ d j, ¬ d = 0 → wq_up F2 0 25 (i + 1) d j = F2 d j := fun d j q => wq_up_cell q
    generalize wq_up F2 0 25 (i + 1) = F3 at *
    have hkd := pm_kind E3.1.1
    rw [if_neg (by decide), od_g1 (pm_b hM E3.1.1)] at e13
    have h357 : K3 57 4 = tk_ty T n (tk_pos T n (i + 1)) := E3.2.1.1.2.1.1
    have s51 := tk_ty_sign (T := T) (n := n) (p := tk_pos T n (i + 1)) (c := 40) (by decide)
    have w3 : F3 0 41 = w := E3.1.2.1.2.1
    by_cases p4 : tk_k T n (i + 1) = 1 ∨ (tk_k T n (i + 1) = 5 ∧ tk_V T n (tk_pos T n (i + 1)) = 40)
    rotate_left
    · have n1 : ¬ tk_k T n (i + 1) = 1 := fun z => p4 (Or.inl z)
      have n2 : ¬ (tk_k T n (i + 1) = 5 ∧ tk_V T n (tk_pos T n (i + 1)) = 40) := fun z => p4 (Or.inr z)
      obtain ⟨a1, a2⟩ := bt_wr (B := 6250) hM E3.1 E3.2.1 E3.2.2.1 (by omega) (by omega) hnp (by omega)
      rw [if_neg (fun z => n1 (hkd.symm.trans z)), pm_isSign hM E3.1.1 (by decide), od_bS] at e13
      dsimp only at e13
      rw [if_neg n2, if_pos rfl, a1, od_bS] at e13
      have ho := hba _ _ (rba_f (h33.trans e13) ff3 (by omega))
      refine wok_f (fun z => n1 (tk_ty_kind.1.mp (h357.symm.trans z))) (wok_f (fun z => n2 (s51.mp (h357.symm.trans z))) ?_)
      refine wok_b (wok_pe a2 (pe_109 k311)) fun r K hx => ?_
      refine wok_l ?_
      obtain ⟨g, rfl⟩ : ∃ a, g = a + 1 := ⟨g - 1, by omega⟩
      exact wok_m (sx_12 hx.1 hx.2 (by omega) (by omega) (by omega) hn (by omega)) fun r K h => Or.inr ⟨_, _, ho, sx_le h (by omega)⟩
    have e200 : mm = dk_256_200 F3 P.length := by
      rw [h33, e13]
      by_cases z : tk_k T n (i + 1) = 1
      · rw [if_pos (hkd.trans z)]
      · rw [if_neg (fun y => z (hkd.symm.trans y)), pm_isSign hM E3.1.1 (by decide), od_bS]
        dsimp only
        rw [if_pos (p4.resolve_left z), if_neg (by decide)]
    have c66 : ∀ {X : Nat → wq_F → Prop}, wok (dk_141_66 (dk_R nn k) nn (dk_141_12 (dk_R nn k) nn g) K3 D (hg c) (3 * Q.length) (PA.length + 1)) X → wok (if (K3 57 4) = 2 then dk_141_66 (dk_R nn k) nn (dk_141_12 (dk_R nn k) nn g) K3 D (hg c) (3 * Q.length) (PA.length + 1) else if (K3 57 4) = 51 then dk_141_66 (dk_R nn k) nn (dk_141_12 (dk_R nn k) nn g) K3 D (hg c) (3 * Q.length) (PA.length + 1) else (dk_109 K3 2).bind fun y9 => od_let ((PA.length + 1 + 1) % 4294967296) fun y13 => dk_141_12 (dk_R nn k) nn g y9.2 D (hg c) (3 * Q.length) y13) X := fun {X} hX => by
      by_cases z : tk_k T n (i + 1) = 1
      · exact wok_t (h357.trans (tk_ty_kind.1.mpr z)) hX
      · exact wok_f (fun y => z (tk_ty_kind.1.mp (h357.symm.trans y))) (wok_t (h357.trans (s51.mpr (p4.resolve_left z))) hX)
    refine c66 ?_
    unfold dk_256_200 at e200
    have k360 : F3 0 60 = PA.length + 1 + P.length := by rw [E3.1.2.2.2.2.1, hPBl, hlB]
    rw [k360, show (PA.length + 1 + P.length + (4294967296 - P.length)) % 4294967296 = PA.length + 1 by omega, od_letS] at e200
    unfold dk_141_66
    have hl : ¬ PA.length + 1 = 20 := by omega
    refine wok_f hl ?_
    rw [if_neg hl] at e200
    have e4 := e_la (cb := cb) (x1 := 21) (x2 := P.length) (x3 := 0) (x4 := 0) E3.1 E3.2.1 E3.2.2.1 hnp
    have e5 := e_la (cb := cb) (x1 := 7) (x2 := 0) (x3 := 0) (x4 := 0) e4.1 e4.2.1 e4.2.2.1 hnp
    rw [dkS_31 (by rw [E3.1.2.2.1.1]; omega), od_bS] at e200
    dsimp only at e200
    rw [dkS_31 (by rw [e4.1.2.2.1.1]; show W.length + 1 < 4000; omega), od_bS] at e200
    have hq3 := E3.2.2.1.2.2.2.2.2.1
    have E5 := eg_t E3 (eg_t e4 e5 hq3) (by rw [show G2 62 = G 62 from funext fun j => z2 62 j (by decide) (by decide)]; exact hq62)
    have ff5 : rm_fr F (pm_la (pm_la F3 21 P.length 0 0) 7 0 0 0) := rm_fr_la (rm_fr_la ff3)
    have x5 : pm_la (pm_la F3 21 P.length 0 0) 7 0 0 0 15 = F2 15 := funext fun j => by
      rw [pm_la_ne (by omega) (by omega), pm_la_ne (by omega) (by omega), x3 15 j (by decide)]
    generalize pm_la (pm_la F3 21 P.length 0 0) 7 0 0 0 = F5 at *
    have g5 : rgo nn F mm F5 := rgo_i e200 (by decide) E5.1.1.1 ff5
    have g5' := hgo F5 g5
    have hE5 := eg_t hE2 E5 h62
    have k562 : K3 62 (N - 1) = G2 62 (N - 1) := (E5.2.2.2.2.1.2.2.1 (N - 1) (by omega)).1
    refine wok_b (wok_pe (ch_ok (cb := cb) (k := k) hM hE hT hkf htD hD hn hc0 hO E5.1 E5.2.1 E5.2.2.1 ⟨by omega, by omega, by omega, by omega, hnp, q6, by omega, by show W.length + 1 ≤ _; omega, q2, by omega, by omega, q5⟩ (by show W.length + 1 ≤ _; omega)) (pe_R _ _ _ _ _ k311)) fun r6 K6 h6 => ?_
    dsimp only
    obtain ⟨h6, k611⟩ := h6
    rcases h6 with ⟨i6, w6, s6, nw6, ns6, np6, ls6, cs6, H6, c6, g6, E6, t6, ⟨v1, v2, v3, v4, v5⟩⟩ | ⟨e, p, ho, hx⟩
    rotate_left
    · rw [htD] at hx
      rw [sx_142e hx, od_bS]
      refine wok_l ?_
      obtain ⟨g, rfl⟩ : ∃ a, g = a + 1 := ⟨g - 1, by omega⟩
      exact wok_m (sx_12 hx k611 (by omega) (by omega) (by omega) hn (by omega)) fun r K h => Or.inr ⟨e, p, rm_to_out g5'.1 g5'.2 ho, sx_le h (by omega)⟩
    have hE6 := eg_t hE5 E6 h62
    have k662 : K6 62 (N - 1) = K3 62 (N - 1) := (E6.2.2.2.2.1.2.2.1 (N - 1) (by omega)).1
    have h15 : F5 15 (K3 62 (N - 1)) ≤ H6 15 (K3 62 (N - 1)) := (E6.2.2.2.1.2.1.2.2.2 (K3 62 (N - 1)) (E5.2.2.1.2.2.2.2.2.1 (N - 1) (by omega))).1
    have hp6 := plr_up (b15' := H6 15 (K6 62 (N - 1))) (by rw [k662, ← k562, ← x5]; exact h15) E6.2.2.2.2.1.1.1 (st_pre_trans E5.2.2.2.2.1.2.1 E6.2.2.2.2.1.2.1) hpB
    have ih6 := ih g PB QB i6 w6 s6 nw6 ns6 np6 w s nw ns np ls6 cs6 c6 H6 K6 F5 K3 (by omega) (by omega) hE6 t6 (k662.symm) hp6 (fun z => by rw [z] at hlB; exact absurd hlB (by simp only [List.length_nil]; omega)) ⟨by omega, by omega, by omega, by omega, by omega⟩
    have e66 : ((dk_142 K6).bind fun y6 => od_let ((PA.length + 1 + 1) % 4294967296) fun y10 => dk_141_12 (dk_R nn k) nn g y6.2 D (hg c) (3 * Q.length) y10) = (dk_142 K6).bind fun y1 => dk_141_12 (dk_R nn k) nn g y1.2 D (hg c) (3 * Q.length) (PB.length + 1) := by
      rw [hlB, Nat.mod_eq_of_lt (show PA.length + 1 + 1 < 4294967296 by omega)]
      rfl
    rw [e66]
    refine wok_m ih6 fun r K hK => ?_
    rcases hK with ⟨i', w', s', nw', ns', np', ls', cs', H, g', E', y⟩ | ⟨e, p, ho, hx⟩
    · exact Or.inl ⟨i', w', s', nw', ns', np', ls', cs', H, ⟨rm_trans g5'.1 (rm_trans g6.1 g'.1), rm_fr_trans g5'.2 (rm_fr_trans g6.2 g'.2)⟩, E', y⟩
    · exact Or.inr ⟨e, p, rm_to_out g5'.1 g5'.2 (rm_to_out g6.1 g6.2 ho), hx⟩
end
