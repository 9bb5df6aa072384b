/-! ===== a79: the reference's compile up to the reading of the text (wip/whole2/lawa79.py) ===== -/
/-- behind the marks of names -/
def cm_24 (n gg : Nat) (F : wq_F) : Option (Nat × wq_F) :=
  od_up F 0 4 0 fun F2 =>
  (dk_26 n F2).bind fun y5 =>
  (dk_29x n gg y5.2).bind fun y9 =>
  if y9.1 = 0 then
    (dk_196 y9.2 (y9.2 0 5)).bind fun y27 =>
    od_up y27.2 0 6 y27.1 fun F31 =>
    some (ev_oNeg (F31 0 4), F31)
  else
    od_up y9.2 0 15 (y9.2 0 14) fun F14 =>
    od_up F14 0 16 (F14 0 8) fun F17 =>
    od_up F17 0 3 1 fun F20 =>
    (dk_38 n F20).bind fun y23 =>
    some (y23.2 0 34, y23.2)
/-- which strings at the beginning are names in a sense of the gathering's observers -/
def cm_x (v : Nat) : Nat := if v = 29 then 1 else if v = 31 then 1 else if v = 36 then 1 else if v < 37 then 0 else 1
theorem cm_step {nn gg v bm : Nat} {r : wq_F → Nat → Option (Nat × wq_F)} {F : wq_F} (hb : F 0 65 = bm) (hb2 : bm ≤ 1400) (hv : v < bm) : dk_24x_24b nn gg r F v = r (wq_up F 5 v (cm_x v)) (v + 1) := by
  unfold dk_24x_24b cm_x
  rw [hb, if_pos ((wd_slt (by omega) (by omega)).mpr hv), Nat.mod_eq_of_lt (show v + 1 < 4294967296 by omega)]
  by_cases q1 : v = 29
  · rw [if_pos q1, if_pos q1, od_g1 (by omega), od_upS, od_letS]
  · rw [if_neg q1, if_neg q1]
    by_cases q2 : v = 31
    · rw [if_pos q2, if_pos q2, od_g1 (by omega), od_upS, od_letS]
    · rw [if_neg q2, if_neg q2]
      by_cases q3 : v = 36
      · rw [if_pos q3, if_pos q3, od_g1 (by omega), od_upS, od_letS]
      · rw [if_neg q3, if_neg q3]
        by_cases q4 : v < 37
        · rw [if_pos ((wd_slt (by omega) (by decide)).mpr q4), if_pos q4, od_g1 (by omega), od_upS, od_letS]
        · rw [if_neg (fun z => q4 ((wd_slt (by omega) (by decide)).mp z)), if_neg q4, od_g1 (by omega), od_upS, od_letS]
theorem cm_end {nn gg v bm : Nat} {r : wq_F → Nat → Option (Nat × wq_F)} {F : wq_F} (hb : F 0 65 = bm) (hb2 : bm ≤ 1400) (hv : v = bm) : dk_24x_24b nn gg r F v = cm_24 nn gg F := by
  unfold dk_24x_24b cm_24
  rw [hb, if_neg (fun z => by have := (wd_slt (by omega) (by omega)).mp z; omega)]
theorem cm_loop {nn gg bm : Nat} (hb2 : bm ≤ 1400) : ∀ (g v : Nat) (F : wq_F), F 0 65 = bm → v ≤ bm → bm - v < g → ∃ H, dk_24x_24 nn gg g F v = cm_24 nn gg H ∧ (∀ c j, c ≠ 5 → H c j = F c j) ∧ (∀ j, v ≤ j → j < bm → H 5 j = cm_x j) ∧ ∀ j, j < v ∨ bm ≤ j → H 5 j = F 5 j := by
  intro g
  induction g with
  | zero => exact fun v F _ _ h => absurd h (Nat.not_lt_zero _)
  | succ g ih =>
    intro v F hb hv hg'
    show ∃ H, dk_24x_24b nn gg (dk_24x_24 nn gg g) F v = _ ∧ _
    by_cases q : v < bm
    · rw [cm_step hb hb2 q]
      obtain ⟨H, h1, h2, h3, h4⟩ := ih (v + 1) (wq_up F 5 v (cm_x v)) (by rw [wq_up_cell (by decide)]; exact hb) (by omega) (by omega)
      refine ⟨H, h1, fun c j hc => (h2 c j hc).trans (wq_up_cell hc), fun j a b => ?_, fun j a => ?_⟩
      · by_cases z : j = v
        · rw [h4 j (Or.inl (by omega)), z, wq_up_same]
        · exact h3 j (by omega) b
      · rw [h4 j (by omega), wq_up_at (by omega)]
    · rw [cm_end hb hb2 (by omega)]
      exact ⟨F, rfl, fun _ _ _ => rfl, fun j a b => absurd b (by omega), fun _ _ => rfl⟩
/-- compile of the reference: up to the reading, the strings, the tokens -/
theorem ref_front {nn n O bm : Nat} {T : Nat → Nat} {F : wq_F} {ls : List (List Nat)} (hn : 10000 < nn) (hT : F 1 = T) (hF : F 0 2 = n) (hn6 : n ≤ 6000) (hC : ∀ i, i < n → T i < 256) (hb : F 0 65 = bm) (hb2 : bm ≤ 1400) (hls : ls.length ≤ 3000) (hR : rs_ok F ls) (hbl : bm ≤ ls.length) (hp : F 0 66 = st_off ls bm) (ho : st_off ls bm ≤ O) (hO : O ≤ 20000) :
    ∃ M G ms, tk_M T n M ∧ (G 0 4 = 0 ∧ G 1 = T ∧ G 0 2 = n) ∧ rt_ok T n G (M + 1) ms ∧ rs_ok G ms ∧ lsb ms ∧ (∀ s, s < bm → ms.getD s [] = ls.getD s []) ∧ bm ≤ ms.length ∧ (∀ s, s < bm → (∀ j, j < M + 1 → (tk_k T n j = 1 ∨ tk_k T n j = 3) → G 11 j ≠ s) → G 5 s = cm_x s) ∧ (∀ c i, 11 < c ∨ (c = 0 ∧ (i = 1 ∨ i = 7 ∨ (9 ≤ i ∧ i < 14) ∨ (15 ≤ i ∧ i < 20) ∨ (25 ≤ i ∧ i < 67) ∨ 69 < i)) → G c i = F c i) ∧ ∀ gg, dk_24x nn gg F = (dk_29x nn gg G).bind fun y9 => if y9.1 = 0 then (dk_196 y9.2 (y9.2 0 5)).bind fun y27 => od_up y27.2 0 6 y27.1 fun F31 => some (ev_oNeg (F31 0 4), F31) else od_up y9.2 0 15 (y9.2 0 14) fun F14 => od_up F14 0 16 (F14 0 8) fun F17 => od_up F17 0 3 1 fun F20 => (dk_38 nn F20).bind fun y23 => some (y23.2 0 34, y23.2) := by
  have hR4 : rs_ok (wq_up (wq_up F 0 0 0) 0 3 0) ls := rs_ok_up hR ⟨by rw [wq_up_at (by decide), wq_up_at (by decide)], by rw [wq_up_at (by decide), wq_up_at (by decide)]⟩ (fun c hc => funext fun j => by rw [wq_up_cell (by omega), wq_up_cell (by omega)])
  obtain ⟨A, a1, a2, a3⟩ := dkS_25 (nn := nn) hls hR4 hbl hp (by omega)
  have a3' : ∀ c i, c ≠ 7 → ¬ (c = 0 ∧ (i = 0 ∨ i = 3 ∨ i = 8 ∨ i = 14)) → A c i = F c i := fun c i h1 h2 => by
    rw [a3 c i h1 (fun z => ⟨fun y => h2 ⟨z, by omega⟩, fun y => h2 ⟨z, by omega⟩⟩), wq_up_ne (by omega), wq_up_ne (by omega)]
  have lt : (ls.take bm).length = bm := st_take_len hbl
  have hlp : ∀ gg, ∃ H, dk_24x_24 nn gg nn A 0 = cm_24 nn gg H ∧ (∀ c j, c ≠ 5 → H c j = A c j) ∧ (∀ j, 0 ≤ j → j < bm → H 5 j = cm_x j) ∧ ∀ j, j < 0 ∨ bm ≤ j → H 5 j = A 5 j := fun gg => cm_loop hb2 nn 0 A (by rw [a3' 0 65 (by decide) (by decide)]; exact hb) (Nat.zero_le _) (by omega)
  -- the memory behind the marks doesn't depend on the fuel
  have hfix : ∃ H, (∀ gg, dk_24x_24 nn gg nn A 0 = cm_24 nn gg H) ∧ (∀ c j, c ≠ 5 → H c j = A c j) ∧ (∀ j, j < bm → H 5 j = cm_x j) := by
    refine ⟨fun c j => if c = 5 ∧ j < bm then cm_x j else A c j, fun gg => ?_, fun c j hc => if_neg (fun z => hc z.1), fun j hj => if_pos ⟨rfl, hj⟩⟩
    obtain ⟨H, h1, h2, h3, h4⟩ := hlp gg
    rw [h1, show H = fun c j => if c = 5 ∧ j < bm then cm_x j else A c j from funext fun c => funext fun j => by
      by_cases z : c = 5
      · by_cases y : j < bm
        · rw [if_pos ⟨z, y⟩, z]
          exact h3 j (Nat.zero_le _) y
        · rw [if_neg (fun x => y x.2), z]
          exact h4 j (Or.inr (by omega))
      · rw [if_neg (fun x => z x.1)]
        exact h2 c j z]
  obtain ⟨H, h1, h2, h3⟩ := hfix
  have e5 : ∀ c, c ≠ 5 → c ≠ 0 → wq_up H 0 4 0 c = A c := fun c h5 h0 => funext fun j => by rw [wq_up_cell h0, h2 c j h5]
  have hRB : rs_ok (wq_up H 0 4 0) (ls.take bm) := rs_ok_up a2 ⟨by rw [wq_up_at (by decide), h2 0 14 (by decide)], by rw [wq_up_at (by decide), h2 0 8 (by decide)]⟩ (fun c hc => e5 c (by omega) (by omega))
  have hB1 : wq_up H 0 4 0 1 = T := by
    rw [e5 1 (by decide) (by decide), ← hT]
    exact funext fun j => a3' 1 j (by decide) (by omega)
  have hB2 : wq_up H 0 4 0 0 2 = n := by rw [wq_up_at (by decide), h2 0 2 (by decide), a3' 0 2 (by decide) (by decide)]; exact hF
  obtain ⟨M, G, ms, g1, g2, g3, g4, ⟨i1, i2, i3, ⟨i4, i5, i6⟩, i7, i8⟩, g6⟩ := dkS_26 (nn := nn) (O := O) hB1 hB2 hn6 hC (by omega) (by omega) hO hRB (by rw [lt, st_take_off hbl (Nat.le_refl _)]; exact ho)
  refine ⟨M, G, ms, ⟨g2, g3, g4, hn6, hC⟩, ⟨?_, ?_, ?_⟩, i3, i2, ⟨ms, ⟨by omega, by omega⟩, st_sf_refl _⟩, fun s hs => ?_, by omega, fun s hs hj => ?_, fun c i hi => ?_, fun gg => ?_⟩
  · rw [i8 0 4 (by decide) (by decide), wq_up_same]
  · rw [← hB1]
    exact funext fun j => i8 1 j (by decide) (fun z => absurd z (by decide))
  · rw [i8 0 2 (by decide) (by decide)]
    exact hB2
  · rw [i4 s (by omega), st_take_get hs hbl]
  · rw [i7 s (by omega) hj, wq_up_cell (by decide), h3 s hs]
  · rw [i8 c i (by omega) (fun z => by omega), wq_up_ne (by omega), h2 c i (by omega), a3' c i (by omega) (by omega)]
  · unfold dk_24x
    rw [od_upS, od_upS, show wq_up (wq_up F 0 0 0) 0 3 0 0 65 = bm by rw [wq_up_at (by decide), wq_up_at (by decide)]; exact hb, show wq_up (wq_up F 0 0 0) 0 3 0 0 66 = F 0 66 by rw [wq_up_at (by decide), wq_up_at (by decide)], a1, od_bS]
    dsimp only
    rw [h1 gg]
    unfold cm_24
    rw [od_upS, g1, od_bS]
