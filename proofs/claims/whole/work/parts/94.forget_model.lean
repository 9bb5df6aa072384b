/-! ===== 94: the reference's store cut back: forgetFrom (wip/whole2/94.txt) ===== -/
def rs_st (F : wq_F) (ls : List (List Nat)) : Prop := st_ok rh enR (F 2) (F 3) (F 4) (F 6) (F 7) ls
theorem rs_st_up {F G : wq_F} {ls : List (List Nat)} (h : rs_st F ls) (hc : ∀ c, c = 2 ∨ c = 3 ∨ c = 4 ∨ c = 6 ∨ c = 7 → G c = F c) : rs_st G ls := by
  unfold rs_st at h ⊢
  rw [hc 2 (by decide), hc 3 (by decide), hc 4 (by decide), hc 6 (by decide), hc 7 (by decide)]
  exact h
theorem rs_st_cut {F : wq_F} {ls : List (List Nat)} {m : Nat} (hm : m < ls.length) (h : rs_st F (ls.take (m + 1))) : rs_st (wq_up F 7 (rh (ls.getD m [])) (F 6 m)) (ls.take m) := by
  unfold rs_st at h ⊢
  rw [st_take_s hm] at h
  have hlm : (ls.take m).length = m := st_take_len (by omega)
  have e : ∀ c, c ≠ 7 → wq_up F 7 (rh (ls.getD m [])) (F 6 m) c = F c := fun c hc => funext fun i => wq_up_cell hc
  rw [e 2 (by decide), e 3 (by decide), e 4 (by decide), e 6 (by decide)]
  exact st_ok_cut h (by rw [wq_up_same, hlm]) (fun j hj => wq_up_at hj)
/-- the head of the last string's chain is that string; no other head is -/
theorem rs_st_head {F : wq_F} {ls : List (List Nat)} {m : Nat} (hm : m < ls.length) (hls : ls.length ≤ 3000) (h : rs_st F (ls.take (m + 1))) {j : Nat} (hj : j < 1024) : F 7 j = m ↔ j = rh (ls.getD m []) := by
  unfold rs_st at h
  have hl : (ls.take (m + 1)).length = m + 1 := st_take_len (by omega)
  rw [h.2.2.1 j hj, hl]
  have hg : (ls.take (m + 1)).getD m [] = ls.getD m [] := st_take_get (by omega) (by omega)
  constructor
  · intro e
    cases ho : lx_lst (fun t => rh ((ls.take (m + 1)).getD t []) == j) (m + 1) with
    | none =>
      rw [ho] at e
      have e : 4294967295 = m := e
      omega
    | some s =>
      rw [ho] at e
      have e : s = m := e
      have h2 := eq_of_beq (lx_lst_some ho).2
      rw [e, hg] at h2
      exact h2.symm
  · intro e
    rw [lx_lst_t (by rw [hg, e]; exact beq_self_eq_true _)]
    rfl
theorem dkL_25_20 {nn : Nat} {r : wq_F → Nat → Nat → Option (Nat × wq_F)} {F : wq_F} {v1 v2 m h : Nat} (hh : h < 1024) (hm : F 0 14 = m) (hm3 : m < 3000) (hu : ∀ j, j < 1024 → (F 7 j = m ↔ j = h)) : ∀ g k : Nat, k ≤ h → h - k < g → dk_25_20 nn r g F v1 v2 k = r (wq_up F 7 h (F 6 m)) v1 v2
  | 0, k, _, hg => absurd hg (by omega)
  | g + 1, k, hk, hg => by
    show dk_25_20b nn r (dk_25_20 nn r g) F v1 v2 k = _
    unfold dk_25_20b
    rw [if_pos ((wd_slt (by omega) (by decide)).mpr (by omega)), od_g1 (by omega), hm]
    by_cases q : k = h
    · rw [if_pos ((hu k (by omega)).mpr q)]
      unfold dk_25_46
      rw [if_pos ((wd_slt (by omega) (by decide)).mpr (by omega)), hm, od_g1 hm3, od_g1 (by omega), od_upS, q]
    · rw [if_neg (fun z => q ((hu k (by omega)).mp z)), od_letS, Nat.mod_eq_of_lt (show k + 1 < 4294967296 by omega)]
      exact dkL_25_20 hh hm hm3 hu g (k + 1) (by omega) (by omega)
/-- the loop of forgetFrom -/
theorem dkL_25 {nn a o : Nat} {ls : List (List Nat)} (hls : ls.length ≤ 3000) (hn : 1024 < nn) : ∀ g m : Nat, ∀ F : wq_F, a ≤ m → m ≤ ls.length → m - a < g → F 0 14 = m → rs_st F (ls.take m) → ∃ G, dk_25_0 nn g F a o = some (0, G) ∧ G 0 14 = a ∧ G 0 8 = o ∧ rs_st G (ls.take a) ∧ (∀ c i, c ≠ 7 → (c = 0 → i ≠ 8 ∧ i ≠ 14) → G c i = F c i)
  | 0, m, F, _, _, h, _, _ => absurd h (by omega)
  | g + 1, m, F, h1, h2, h3, h4, h5 => by
    show ∃ G, dk_25_0b nn (dk_25_0 nn g) F a o = some (0, G) ∧ _
    unfold dk_25_0b
    rw [h4]
    by_cases q : a < m
    · obtain ⟨k, rfl⟩ : ∃ k, m = k + 1 := ⟨m - 1, by omega⟩
      rw [if_pos ((wd_slt (by omega) (by omega)).mpr q), od_letS, od_upS, show (k + 1 + (4294967296 - 1)) % 4294967296 = k by omega]
      have hst : rs_st (wq_up F 0 14 k) (ls.take (k + 1)) := rs_st_up h5 (fun c hc => funext fun i => wq_up_cell (by omega))
      have hkl : k < ls.length := by omega
      rw [dkL_25_20 (rh_lt (ls.getD k [])) (wq_up_same F 0 14 k) (show k < 3000 by omega) (fun j hj => rs_st_head hkl hls hst hj) nn 0 (Nat.zero_le _) (by have := rh_lt (ls.getD k []); omega)]
      have hc := rs_st_cut hkl hst
      obtain ⟨G, d1, d2, d3, d4, d5⟩ := dkL_25 (nn := nn) (a := a) (o := o) hls hn g k (wq_up (wq_up F 0 14 k) 7 (rh (ls.getD k [])) (wq_up F 0 14 k 6 k)) (by omega) (by omega) (by omega) (by rw [wq_up_cell (by decide), wq_up_same]) hc
      refine ⟨G, d1, d2, d3, d4, fun c i h6 h7 => ?_⟩
      rw [d5 c i h6 h7, wq_up_cell h6, wq_up_ne (fun z => (h7 z.1).2 z.2)]
    · have e : a = m := by omega
      subst e
      rw [if_neg (fun z => q ((wd_slt (by omega) (by omega)).mp z)), od_upS]
      exact ⟨_, rfl, by rw [wq_up_at (by decide)]; exact h4, wq_up_same _ _ _ _, rs_st_up h5 (fun c hc => funext fun i => wq_up_cell (by omega)), fun c i _ h7 => wq_up_ne (fun z => (h7 z.1).1 z.2)⟩
/-- forgetFrom -/
theorem dkS_25 {nn a o : Nat} {F : wq_F} {ls : List (List Nat)} (hls : ls.length ≤ 3000) (hR : rs_ok F ls) (ha : a ≤ ls.length) (ho : o = st_off ls a) (hn : 3000 < nn) : ∃ G, dk_25 nn F a o = some (0, G) ∧ rs_ok G (ls.take a) ∧ (∀ c i, c ≠ 7 → (c = 0 → i ≠ 8 ∧ i ≠ 14) → G c i = F c i) := by
  obtain ⟨r1, r2, r3⟩ := hR
  have htk : ls.take ls.length = ls := List.take_length
  obtain ⟨G, d1, d2, d3, d4, d5⟩ := dkL_25 (nn := nn) (a := a) (o := o) hls (by omega) nn ls.length F ha (Nat.le_refl _) (by omega) r1 (by rw [htk]; exact r3)
  exact ⟨G, d1, ⟨by rw [d2, st_take_len ha], by rw [d3, ho, st_take_len ha, st_take_off ha (Nat.le_refl _)], d4⟩, d5⟩
