/-! ===== 93: the class's store cut back: cutTo, dropMade, dropText (wip/whole2/93.txt) ===== -/
/-- the store's rows alone -/
def cs_st (F : wq_F) (ls : List (List Nat)) : Prop := st_ok xh enX (F 3) (F 4) (F 5) (F 6) (F 7) ls ∧ ∀ s, s < ls.length → F 8 s = xh (ls.getD s [])
theorem st_take_s {ls : List (List Nat)} {m : Nat} (h : m < ls.length) : ls.take (m + 1) = ls.take m ++ [ls.getD m []] := by
  rw [List.take_succ, gd_lt h, List.getElem?_eq_getElem h]
  rfl
theorem st_take_len {ls : List (List Nat)} {m : Nat} (h : m ≤ ls.length) : (ls.take m).length = m := by
  rw [List.length_take]
  omega
theorem st_take_get {ls : List (List Nat)} {m s : Nat} (h : s < m) (hm : m ≤ ls.length) : (ls.take m).getD s [] = ls.getD s [] := by
  rw [gd_lt (show s < (ls.take m).length by rw [st_take_len hm]; exact h), gd_lt (show s < ls.length by omega), List.getElem_take]
theorem st_take_off {ls : List (List Nat)} {m : Nat} (hm : m ≤ ls.length) : ∀ {s : Nat}, s ≤ m → st_off (ls.take m) s = st_off ls s
  | 0, _ => rfl
  | s + 1, h => by
    show st_off (ls.take m) s + ((ls.take m).getD s []).length = st_off ls s + (ls.getD s []).length
    rw [st_take_off hm (by omega), st_take_get (by omega) hm]
theorem cs_st_cut {F : wq_F} {ls : List (List Nat)} {m : Nat} (hm : m < ls.length) (h : cs_st F (ls.take (m + 1))) : cs_st (wq_up F 7 (F 8 m) (F 6 m)) (ls.take m) ∧ F 4 m = st_off ls m ∧ F 8 m < 1024 := by
  obtain ⟨h1, h2⟩ := h
  have hl : (ls.take (m + 1)).length = m + 1 := st_take_len (by omega)
  have h8 : F 8 m = xh (ls.getD m []) := by
    rw [h2 m (by omega), st_take_get (by omega) (by omega)]
  have h4 : F 4 m = st_off ls m := by
    rw [(h1.1 m (by omega)).1, st_take_off (by omega) (by omega)]
  rw [st_take_s hm] at h1
  have hlm : (ls.take m).length = m := st_take_len (by omega)
  refine ⟨⟨?_, fun s hs => ?_⟩, h4, by rw [h8]; exact xh_lt _⟩
  · have e : ∀ c, c ≠ 7 → wq_up F 7 (F 8 m) (F 6 m) c = F c := fun c hc => funext fun i => wq_up_cell hc
    rw [e 3 (by decide), e 4 (by decide), e 5 (by decide), e 6 (by decide)]
    exact st_ok_cut h1 (by rw [h8, wq_up_same, hlm]) (fun j hj => by rw [h8, wq_up_at hj])
  · rw [wq_up_cell (by decide), h2 s (by omega), st_take_get (by omega) (by omega), st_take_get (by omega) (by omega)]
theorem cs_st_up {F G : wq_F} {ls : List (List Nat)} (h : cs_st F ls) (hc : ∀ c, 3 ≤ c → c ≤ 8 → G c = F c) : cs_st G ls := by
  obtain ⟨r3, r4⟩ := h
  refine ⟨?_, fun s hs => by rw [hc 8 (by omega) (by omega)]; exact r4 s hs⟩
  rw [hc 3 (by omega) (by omega), hc 4 (by omega) (by omega), hc 5 (by omega) (by omega), hc 6 (by omega) (by omega), hc 7 (by omega) (by omega)]
  exact r3
/-- the loop of cutTo -/
theorem dkL_54 {nn a : Nat} {ls : List (List Nat)} (hls : ls.length ≤ 3000) : ∀ g m : Nat, ∀ G : wq_F, a ≤ m → m ≤ ls.length → m - a < g → G 2 8 ≤ 3000 → cs_st G (ls.take m) →
    ∃ H, dk_54_7 nn g G a ((m + 4294967295) % 4294967296) = some (0, H) ∧ cs_st H (ls.take a) ∧ H 2 8 = min (G 2 8) a ∧ H 2 9 = (if a < m then st_off ls a else G 2 9) ∧ (∀ c i, c ≠ 7 → (c = 2 → i ≠ 8 ∧ i ≠ 9) → H c i = G c i)
  | 0, m, G, _, _, h, _, _ => absurd h (by omega)
  | g + 1, m, G, h1, h2, h3, h4, h5 => by
    show ∃ H, dk_54_7b nn (dk_54_7 nn g) G a ((m + 4294967295) % 4294967296) = some (0, H) ∧ _
    unfold dk_54_7b
    by_cases q : a < m
    · obtain ⟨k, rfl⟩ : ∃ k, m = k + 1 := ⟨m - 1, by omega⟩
      have e : (k + 1 + 4294967295) % 4294967296 = k := by omega
      obtain ⟨c1, c2, c3⟩ := cs_st_cut (show k < ls.length by omega) h5
      rw [e, if_neg (fun z => absurd ((wd_slt (by omega) (by omega)).mp z) (by omega)), od_g1 (by omega), od_upS, od_g1 (by omega), od_g1 (by omega), wq_up_cell (by decide), od_g1 c3, od_upS, od_letS, wq_up_cell (by decide)]
      have hst : cs_st (wq_up (wq_up G 2 9 (G 4 k)) 7 (G 8 k) (G 6 k)) (ls.take k) := cs_st_up c1 (fun c h6 h7 => by
        funext i
        unfold wq_up
        by_cases z : c = 7 ∧ i = G 8 k
        · rw [if_pos z, if_pos z]
        · rw [if_neg z, if_neg z, if_neg (fun y => by have := y.1; omega)])
      obtain ⟨H, d1, d2, d3, d4, d5⟩ := dkL_54 (nn := nn) (a := a) hls g k (wq_up (wq_up G 2 9 (G 4 k)) 7 (G 8 k) (G 6 k)) (by omega) (by omega) (by omega) (by rw [wq_up_cell (by decide), wq_up_at (by decide)]; exact h4) hst
      refine ⟨H, d1, d2, ?_, ?_, fun c i hc hi => ?_⟩
      · rw [d3, wq_up_cell (by decide), wq_up_at (by decide)]
      · rw [d4, if_pos q]
        by_cases z : a < k
        · rw [if_pos z]
        · have : a = k := by omega
          rw [if_neg z, wq_up_cell (by decide), wq_up_same, c2, this]
      · rw [d5 c i hc hi, wq_up_cell hc, wq_up_ne (fun y => (hi y.1).2 y.2)]
    · have e : a = m := by omega
      subst e
      have hs : ev_s ((a + 4294967295) % 4294967296) < ev_s a := by
        unfold ev_s
        omega
      rw [if_pos hs, od_letS, od_upS]
      refine ⟨_, rfl, cs_st_up h5 (fun c h6 h7 => funext fun i => wq_up_cell (by omega)), ?_, ?_, fun c i hc hi => wq_up_ne (fun y => (hi y.1).1 y.2)⟩
      · rw [wq_up_same]
        by_cases z : a < G 2 8
        · rw [if_pos ((wd_slt (by omega) (by omega)).mpr z)]
          omega
        · rw [if_neg (fun y => z ((wd_slt (by omega) (by omega)).mp y))]
          omega
      · rw [wq_up_at (by decide), if_neg (Nat.lt_irrefl _)]
/-- cutTo -/
theorem dkS_54 {nn a : Nat} {G : wq_F} {ls : List (List Nat)} (hls : ls.length ≤ 3000) (hR : cs_ok G ls) (ha : a ≤ ls.length) (hn : 3000 < nn) : ∃ H, dk_54 nn G a = some (0, H) ∧ cs_ok H (ls.take a) ∧ (∀ c i, c ≠ 7 → (c = 2 → i ≠ 8 ∧ i ≠ 9) → H c i = G c i) := by
  obtain ⟨r1, r2, r3, r4⟩ := hR
  have htk : ls.take ls.length = ls := List.take_length
  obtain ⟨H, d1, d2, d3, d4, d5⟩ := dkL_54 (nn := nn) (a := a) hls nn ls.length G ha (Nat.le_refl _) (by omega) (by omega) (by rw [htk]; exact ⟨r3, r4⟩)
  refine ⟨H, ?_, ⟨?_, ?_, d2.1, d2.2⟩, d5⟩
  · unfold dk_54
    rw [od_letS, r1]
    exact d1
  · rw [d3, r1, st_take_len ha]
    omega
  · rw [d4, st_take_len ha, st_take_off ha (Nat.le_refl _)]
    by_cases z : a < ls.length
    · rw [if_pos z]
    · have : a = ls.length := by omega
      rw [if_neg z, r2, this]
/-- the loop of dropText: all but the fixed ones are latent -/
theorem dkL_52 {nn f : Nat} (hf : f ≤ 3000) : ∀ g k : Nat, ∀ G : wq_F, k ≤ f → f - k < g → G 2 10 = f → ∃ H, dk_52_18 nn g G k = some (0, H) ∧ (∀ s, H 9 s = if k ≤ s ∧ s < f ∧ ¬ G 9 s = 1 then 2 else G 9 s) ∧ (∀ c i, c ≠ 9 → H c i = G c i)
  | 0, k, G, _, h, _ => absurd h (by omega)
  | g + 1, k, G, h1, h2, h3 => by
    show ∃ H, dk_52_18b nn (dk_52_18 nn g) G k = some (0, H) ∧ _
    unfold dk_52_18b
    rw [h3]
    by_cases q : k < f
    · rw [if_pos ((wd_slt (by omega) (by omega)).mpr q), od_g1 (by omega)]
      by_cases z : G 9 k = 1
      · rw [if_pos z, od_letS, Nat.mod_eq_of_lt (show k + 1 < 4294967296 by omega)]
        obtain ⟨H, d1, d2, d3⟩ := dkL_52 (nn := nn) hf g (k + 1) G (by omega) (by omega) h3
        refine ⟨H, d1, fun s => ?_, d3⟩
        rw [d2]
        by_cases y : k ≤ s ∧ s < f ∧ ¬ G 9 s = 1
        · have : s ≠ k := fun e => y.2.2 (by rw [e]; exact z)
          rw [if_pos y, if_pos (by omega)]
        · rw [if_neg y, if_neg (fun w => y ⟨by omega, w.2⟩)]
      · rw [if_neg z, od_g1 (by omega), od_upS, od_letS, Nat.mod_eq_of_lt (show k + 1 < 4294967296 by omega)]
        obtain ⟨H, d1, d2, d3⟩ := dkL_52 (nn := nn) hf g (k + 1) (wq_up G 9 k (ev_b8 2)) (by omega) (by omega) (by rw [wq_up_cell (by decide)]; exact h3)
        refine ⟨H, d1, fun s => ?_, fun c i hc => by rw [d3 c i hc, wq_up_cell hc]⟩
        rw [d2]
        by_cases e : s = k
        · subst e
          rw [wq_up_same, if_neg (by omega), if_pos ⟨Nat.le_refl _, q, z⟩]
          rfl
        · rw [wq_up_at e]
          by_cases y : k ≤ s ∧ s < f ∧ ¬ G 9 s = 1
          · rw [if_pos y, if_pos (by omega)]
          · rw [if_neg y, if_neg (fun w => y ⟨by omega, w.2⟩)]
    · rw [if_neg (fun z => q ((wd_slt (by omega) (by omega)).mp z))]
      refine ⟨G, rfl, fun s => ?_, fun _ _ _ => rfl⟩
      rw [if_neg (by omega)]
/-- the loop of dropMade: what a run made is latent -/
theorem dkL_53 {nn f : Nat} (hf : f ≤ 3000) : ∀ g k : Nat, ∀ G : wq_F, k ≤ f → f - k < g → G 2 10 = f → ∃ H, dk_53_10 nn g G k = some (0, H) ∧ (∀ s, H 9 s = if k ≤ s ∧ s < f ∧ G 9 s = 4 then 2 else G 9 s) ∧ H 2 12 = 0 ∧ H 2 13 = 0 ∧ (∀ c i, c ≠ 9 → (c = 2 → i ≠ 12 ∧ i ≠ 13) → H c i = G c i)
  | 0, k, G, _, h, _ => absurd h (by omega)
  | g + 1, k, G, h1, h2, h3 => by
    show ∃ H, dk_53_10b nn (dk_53_10 nn g) G k = some (0, H) ∧ _
    unfold dk_53_10b
    rw [h3]
    by_cases q : k < f
    · rw [if_pos ((wd_slt (by omega) (by omega)).mpr q), od_g1 (by omega)]
      by_cases z : G 9 k = 4
      · rw [if_pos z, od_g1 (by omega), od_upS, od_letS, Nat.mod_eq_of_lt (show k + 1 < 4294967296 by omega)]
        obtain ⟨H, d1, d2, d3, d4, d5⟩ := dkL_53 (nn := nn) hf g (k + 1) (wq_up G 9 k (ev_b8 2)) (by omega) (by omega) (by rw [wq_up_cell (by decide)]; exact h3)
        refine ⟨H, d1, fun s => ?_, d3, d4, fun c i hc hi => by rw [d5 c i hc hi, wq_up_cell hc]⟩
        rw [d2]
        by_cases e : s = k
        · subst e
          rw [wq_up_same, if_neg (by omega), if_pos ⟨Nat.le_refl _, q, z⟩]
          rfl
        · rw [wq_up_at e]
          by_cases y : k ≤ s ∧ s < f ∧ G 9 s = 4
          · rw [if_pos y, if_pos (by omega)]
          · rw [if_neg y, if_neg (fun w => y ⟨by omega, w.2⟩)]
      · rw [if_neg z, od_letS, Nat.mod_eq_of_lt (show k + 1 < 4294967296 by omega)]
        obtain ⟨H, d1, d2, d3, d4, d5⟩ := dkL_53 (nn := nn) hf g (k + 1) G (by omega) (by omega) h3
        refine ⟨H, d1, fun s => ?_, d3, d4, d5⟩
        rw [d2]
        by_cases y : k ≤ s ∧ s < f ∧ G 9 s = 4
        · have : s ≠ k := fun e => z (by rw [← e]; exact y.2.2)
          rw [if_pos y, if_pos (by omega)]
        · rw [if_neg y, if_neg (fun w => y ⟨by omega, w.2⟩)]
    · rw [if_neg (fun z => q ((wd_slt (by omega) (by omega)).mp z)), od_upS, od_upS]
      refine ⟨_, rfl, fun s => ?_, by rw [wq_up_at (by decide), wq_up_same], wq_up_same _ _ _ _, fun c i hc hi => ?_⟩
      · rw [wq_up_cell (by decide), wq_up_cell (by decide), if_neg (by omega)]
      · rw [wq_up_ne (fun y => (hi y.1).2 y.2), wq_up_ne (fun y => (hi y.1).1 y.2)]
theorem st_take_take {ls : List (List Nat)} {a b : Nat} (h : a ≤ b) : (ls.take b).take a = ls.take a := by
  rw [List.take_take, Nat.min_eq_left h]
/-- both, as judge() begins -/
theorem dkS_drop {nn f t : Nat} {G : wq_F} {ls : List (List Nat)} (hls : ls.length ≤ 3000) (hR : cs_ok G ls) (hf : G 2 10 = f) (ht : G 2 11 = t) (hft : f ≤ t) (htl : t ≤ ls.length) (hn : 3000 < nn) : ∃ H, (dk_53 nn G).bind (fun y => dk_52 nn y.2) = some (0, H) ∧ cs_ok H (ls.take f) ∧ H 2 11 = f ∧ H 2 12 = 0 ∧ H 2 13 = 0 ∧ (∀ s, s < f → H 9 s = if G 9 s = 1 then 1 else 2) ∧ (∀ c i, c ≠ 7 → c ≠ 9 → (c = 2 → i ≠ 8 ∧ i ≠ 9 ∧ i ≠ 11 ∧ i ≠ 12 ∧ i ≠ 13) → H c i = G c i) := by
  obtain ⟨A, a1, a2, a3⟩ := dkS_54 (nn := nn) hls hR htl hn
  have hA10 : A 2 10 = f := by rw [a3 2 10 (by decide) (by decide)]; exact hf
  obtain ⟨B, b1, b2, b3, b4, b5⟩ := dkL_53 (nn := nn) (f := f) (by omega) nn 0 A (Nat.zero_le _) (by omega) hA10
  have hB10 : B 2 10 = f := by rw [b5 2 10 (by decide) (by decide)]; exact hA10
  have hlt : (ls.take t).length = t := st_take_len htl
  have hBok : cs_ok B (ls.take t) := cs_ok_up a2 ⟨b5 2 8 (by decide) (by decide), b5 2 9 (by decide) (by decide)⟩ (fun c h3 h4 => funext fun i => b5 c i (by omega) (by omega))
  obtain ⟨C, c1, c2, c3⟩ := dkS_54 (nn := nn) (a := f) (G := B) (ls := ls.take t) (by omega) hBok (by omega) hn
  rw [st_take_take hft] at c2
  have hC10 : C 2 10 = f := by rw [c3 2 10 (by decide) (by decide)]; exact hB10
  obtain ⟨D, d1, d2, d3⟩ := dkL_52 (nn := nn) (f := f) (by omega) nn 0 (wq_up C 2 11 f) (Nat.zero_le _) (by omega) (by rw [wq_up_at (by decide)]; exact hC10)
  refine ⟨D, ?_, cs_ok_up (cs_ok_f c2 (c := 2) (f := 11) (v := f) (Or.inl rfl) (by decide)) ⟨d3 2 8 (by decide), d3 2 9 (by decide)⟩ (fun c h3 h4 => funext fun i => d3 c i (by omega)), ?_, ?_, ?_, fun s hs => ?_, fun c i h7 h9 hi => ?_⟩
  · unfold dk_53
    rw [ht, a1, od_bS]
    dsimp only
    rw [b1, od_bS]
    dsimp only
    unfold dk_52
    rw [hB10, c1, od_bS]
    dsimp only
    rw [od_upS, hC10]
    exact d1
  · rw [d3 2 11 (by decide), wq_up_same]
  · rw [d3 2 12 (by decide), wq_up_at (by decide), c3 2 12 (by decide) (by decide)]
    exact b3
  · rw [d3 2 13 (by decide), wq_up_at (by decide), c3 2 13 (by decide) (by decide)]
    exact b4
  · rw [d2, wq_up_cell (by decide), c3 9 s (by decide) (by omega), b2, a3 9 s (by decide) (by omega)]
    by_cases z : G 9 s = 1
    · have z4 : ¬ G 9 s = 4 := by omega
      rw [if_pos z, if_neg (show ¬ (0 ≤ s ∧ s < f ∧ G 9 s = 4) from fun w => z4 w.2.2), if_neg (fun w => w.2.2 z)]
      exact z
    · rw [if_neg z]
      by_cases z4 : G 9 s = 4
      · rw [if_pos (show 0 ≤ s ∧ s < f ∧ G 9 s = 4 from ⟨Nat.zero_le _, hs, z4⟩), if_pos ⟨Nat.zero_le _, hs, by decide⟩]
      · rw [if_neg (show ¬ (0 ≤ s ∧ s < f ∧ G 9 s = 4) from fun w => z4 w.2.2), if_pos ⟨Nat.zero_le _, hs, z⟩]
  · rw [d3 c i h9, wq_up_ne (fun y => (hi y.1).2.2.1 y.2), c3 c i h7 (fun y => ⟨(hi y).1, (hi y).2.1⟩), b5 c i h9 (fun y => ⟨(hi y).2.2.2.1, (hi y).2.2.2.2⟩), a3 c i h7 (fun y => ⟨(hi y).1, (hi y).2.1⟩)]
