/-! ===== 78: the class's store: find, add, keepTextual, wordOfRow (wip/whole2/78.txt) ===== -/
def cs_ok (F : wq_F) (ls : List (List Nat)) : Prop := F 2 8 = ls.length ∧ F 2 9 = st_off ls ls.length ∧ st_ok xh enX (F 3) (F 4) (F 5) (F 6) (F 7) ls ∧ ∀ s, s < ls.length → F 8 s = xh (ls.getD s [])
theorem enX_sub (o : Option Nat) (h : enX o < 4294967296) : (enX o + (4294967296 - 1)) % 4294967296 = enR o := by
  cases o with
  | none => rfl
  | some s =>
    show (s + 1 + (4294967296 - 1)) % 4294967296 = s
    have h : s + 1 < 4294967296 := h
    omega
theorem dkL_8_127t {n : Nat} {r64 : wq_F → Nat → Option (Nat × wq_F)} {F : wq_F} {s v : Nat} (h : v = F 2 15) : dk_8_127 n r64 F s v = some (s, F) := by
  unfold dk_8_127
  rw [if_pos h]
theorem dkL_8_127f {n : Nat} {r64 : wq_F → Nat → Option (Nat × wq_F)} {F : wq_F} {s v : Nat} (h : ¬ v = F 2 15) (hs : s < 3000) : dk_8_127 n r64 F s v = r64 F ((F 6 s + (4294967296 - 1)) % 4294967296) := by
  unfold dk_8_127
  rw [if_neg h, od_g1 hs, od_letS]
theorem dkL_8_87z {n : Nat} {r64 : wq_F → Nat → Option (Nat × wq_F)} {F : wq_F} {s : Nat} : ∀ g, 0 < g → dk_8_87 n r64 g F s 4294967295 = dk_8_127 n r64 F s 4294967295
  | 0, h => absurd h (by omega)
  | g + 1, _ => by
    show dk_8_87b n r64 (dk_8_87 n r64 g) F s 4294967295 = _
    unfold dk_8_87b
    rw [if_pos (by decide)]
theorem dkL_8_87 {n : Nat} {r64 : wq_F → Nat → Option (Nat × wq_F)} {F : wq_F} {s : Nat} {b c : List Nat} (hb : bf_is (F 10) b) (hlb : F 2 15 = b.length) (hl : b.length ≤ 2200) (hs : s < 3000) (ho : F 4 s + b.length ≤ 32768) (hc : ∀ k, k < c.length → F 3 (F 4 s + k) = c.getD k 0) (hcl : c.length = b.length) : ∀ g k : Nat, k ≤ b.length → b.length - k < g → (∀ j, j < k → b.getD j 0 = c.getD j 0) → dk_8_87 n r64 g F s k = if b = c then some (s, F) else r64 F ((F 6 s + (4294967296 - 1)) % 4294967296)
  | 0, k, hk, hg, _ => absurd hg (by omega)
  | g + 1, k, hk, hg, hj => by
    show dk_8_87b n r64 (dk_8_87 n r64 g) F s k = _
    unfold dk_8_87b
    rw [if_neg (by omega), hlb]
    by_cases q : k < b.length
    · rw [if_pos ((wd_slt (by omega) (by omega)).mpr q), od_g1 hs, Nat.mod_eq_of_lt (show F 4 s + k < 4294967296 by omega), od_g1 (by omega), od_letS, od_g1 (by omega), hc k (by omega), hb k q]
      by_cases e : c.getD k 0 = b.getD k 0
      · rw [if_pos e, od_letS, Nat.mod_eq_of_lt (show k + 1 < 4294967296 by omega)]
        exact dkL_8_87 hb hlb hl hs ho hc hcl g (k + 1) (by omega) (by omega) (fun j hj' => by
          by_cases z : j = k
          · rw [z]; exact e.symm
          · exact hj j (by omega))
      · rw [if_neg e, dkL_8_127f (by omega) hs, if_neg (show ¬ b = c from fun z => e (by rw [z]))]
    · rw [if_neg (fun z => q ((wd_slt (by omega) (by omega)).mp z))]
      have e : b = c := bf_eq hcl.symm (fun j hj' => hj j (by omega))
      rw [if_pos e, dkL_8_127t (by omega)]
theorem dkL_8_64 {n : Nat} {F : wq_F} {ls : List (List Nat)} {b : List Nat} (hR : cs_ok F ls) (hb : bf_is (F 10) b) (hlb : F 2 15 = b.length) (hl : b.length ≤ 2200) (hn : b.length < n) (hm : ls.length ≤ 3000) (hp : st_off ls ls.length ≤ 32768) : ∀ g m : Nat, m ≤ ls.length → m < g → dk_8_64 n g F (enR (lx_lst (fun t => xh (ls.getD t []) == xh b) m)) = some (enR (lx_lst (fun t => decide (ls.getD t [] = b)) m), F)
  | 0, m, h1, h2 => absurd h2 (by omega)
  | g + 1, m, h1, h2 => by
    obtain ⟨r1, r2, ⟨a1, a2, a3, a4, a5⟩, r3⟩ := hR
    have hpq : ∀ t, decide (ls.getD t [] = b) = true → (xh (ls.getD t []) == xh b) = true := fun t ht => by
      rw [of_decide_eq_true ht]
      exact beq_self_eq_true _
    cases ho : lx_lst (fun t => xh (ls.getD t []) == xh b) m with
    | none =>
      rw [lx_lst_n hpq ho]
      show dk_8_64b n (dk_8_64 n g) F 4294967295 = _
      unfold dk_8_64b
      rw [if_pos (by decide)]
      rfl
    | some s =>
      have hs := lx_lst_some ho
      have hs1 : s < ls.length := by omega
      have hsh : xh (ls.getD s []) = xh b := eq_of_beq hs.2
      rw [lx_lst_sub hpq ho]
      have hat := a1 s hs1
      have hoff := st_off_mono ls (show s + 1 ≤ ls.length by omega)
      have hoff2 : st_off ls (s + 1) = st_off ls s + (ls.getD s []).length := rfl
      have next : decide (ls.getD s [] = b) = false → dk_8_64 n g F ((F 6 s + (4294967296 - 1)) % 4294967296) = some (enR (bif decide (ls.getD s [] = b) then some s else lx_lst (fun t => decide (ls.getD t [] = b)) s), F) := fun z => by
        have hlt : enX (lx_lst (fun t => xh (ls.getD t []) == xh (ls.getD s [])) s) < 4294967296 := by
          cases hz : lx_lst (fun t => xh (ls.getD t []) == xh (ls.getD s [])) s with
          | none => exact (by decide : 0 < 4294967296)
          | some u =>
            have := (lx_lst_some hz).1
            show u + 1 < 4294967296
            omega
        rw [z, cond_false, a4 s hs1, enX_sub _ hlt, hsh]
        exact dkL_8_64 ⟨r1, r2, ⟨a1, a2, a3, a4, a5⟩, r3⟩ hb hlb hl hn hm hp g s (by omega) (by omega)
      show dk_8_64b n (dk_8_64 n g) F s = _
      unfold dk_8_64b
      rw [if_neg (by omega), od_g1 (by omega), hat.2, hlb]
      by_cases q : (ls.getD s []).length = b.length
      · rw [if_pos q, dkL_8_87 hb hlb hl (by omega) (by rw [hat.1]; omega) (c := ls.getD s []) (fun k hk => by rw [hat.1]; exact a2 s k hs1 hk) q n 0 (by omega) (by omega) (fun j hj => absurd hj (by omega))]
        by_cases e : b = ls.getD s []
        · rw [if_pos e, decide_eq_true e.symm, cond_true]
          rfl
        · rw [if_neg e]
          exact next (decide_eq_false (fun z => e z.symm))
      · rw [if_neg q, dkL_8_87z n (by omega), dkL_8_127f (by omega) (by omega)]
        exact next (decide_eq_false (fun z => q (by rw [z])))
theorem cs_ok_up {F : wq_F} {ls : List (List Nat)} (h : cs_ok F ls) {G : wq_F} (h0 : G 2 8 = F 2 8 ∧ G 2 9 = F 2 9) (hc : ∀ c, 3 ≤ c → c ≤ 8 → G c = F c) : cs_ok G ls := by
  obtain ⟨r1, r2, r3, r4⟩ := h
  refine ⟨by rw [h0.1]; exact r1, by rw [h0.2]; exact r2, ?_, fun s hs => by rw [hc 8 (by omega) (by omega)]; exact r4 s hs⟩
  rw [hc 3 (by omega) (by omega), hc 4 (by omega) (by omega), hc 5 (by omega) (by omega), hc 6 (by omega) (by omega), hc 7 (by omega) (by omega)]
  exact r3
theorem dkL_8_7 {n : Nat} {F : wq_F} {ls : List (List Nat)} {b : List Nat} (hR : cs_ok F ls) (hb : bf_is (F 10) b) (hlb : F 2 15 = b.length) (hl : b.length ≤ 2200) (hn : b.length < n) (hn2 : ls.length < n) (hm : ls.length ≤ 3000) (hp : st_off ls ls.length ≤ 32768) : ∀ g k h : Nat, k ≤ b.length → b.length - k < g → xh_go (b.drop k) h = xh_go b b.length → dk_8_7 n g F h k = some (enR (st_ix ls b), wq_up F 2 6 (xh b))
  | 0, k, h, hk, hg, _ => absurd hg (by omega)
  | g + 1, k, h, hk, hg, hh => by
    show dk_8_7b n (dk_8_7 n g) F h k = _
    unfold dk_8_7b
    rw [hlb]
    by_cases q : k < b.length
    · rw [if_pos ((wd_slt (by omega) (by omega)).mpr q), od_g1 (by omega), od_letS, od_letS, Nat.mod_eq_of_lt (show k + 1 < 4294967296 by omega), hb k q]
      refine dkL_8_7 hR hb hlb hl hn hn2 hm hp g (k + 1) _ (by omega) (by omega) ?_
      rw [bf_drop q] at hh
      exact hh
    · rw [if_neg (fun z => q ((wd_slt (by omega) (by omega)).mp z)), od_letS]
      have e : k = b.length := by omega
      subst e
      rw [List.drop_length] at hh
      have hh : h = xh_go b b.length := hh
      have hx : ev_oAnd (ev_oXor (ev_oXor h (ev_oUsh h 10)) (ev_oUsh h 20)) 1023 = xh b := by rw [hh]; rfl
      rw [hx, od_upS, wq_up_same, od_g1 (xh_lt b), od_letS, wq_up_cell (by decide), hR.2.2.1.2.2.1 (xh b) (xh_lt b)]
      have hlt : enX (lx_lst (fun t => xh (ls.getD t []) == xh b) ls.length) < 4294967296 := by
        cases hz : lx_lst (fun t => xh (ls.getD t []) == xh b) ls.length with
        | none => exact (by decide : 0 < 4294967296)
        | some u =>
          have := (lx_lst_some hz).1
          show u + 1 < 4294967296
          omega
      rw [enX_sub _ hlt]
      exact dkL_8_64 (cs_ok_up hR ⟨wq_up_at (by decide), wq_up_at (by decide)⟩ (fun c h3 _ => by funext i; exact wq_up_cell (by omega))) (by
        intro j hj
        rw [wq_up_cell (by decide)]
        exact hb j hj) (by rw [wq_up_at (by decide)]; exact hlb) hl hn hm hp n ls.length (Nat.le_refl _) hn2
theorem dkS_8 {n : Nat} {F : wq_F} {ls : List (List Nat)} {b : List Nat} (hR : cs_ok F ls) (hb : bf_is (F 10) b) (hlb : F 2 15 = b.length) (hl : b.length ≤ 2200) (hn : b.length < n) (hn2 : ls.length < n) (hm : ls.length ≤ 3000) (hp : st_off ls ls.length ≤ 32768) : dk_8 n F = some (enR (st_ix ls b), wq_up F 2 6 (xh b)) := by
  unfold dk_8
  rw [hlb]
  exact dkL_8_7 hR hb hlb hl hn hn2 hm hp n 0 _ (by omega) (by omega) rfl
/-- a string more -/
def cs_add (F : wq_F) : wq_F := wq_up (wq_up (wq_up (wq_up (wq_up (wq_up (wq_up (od_cpF F 10 0 3 (F 2 9) (F 2 15)) 4 (F 2 8) (F 2 9)) 5 (F 2 8) (F 2 15)) 8 (F 2 8) (F 2 6)) 6 (F 2 8) (F 7 (F 2 6))) 7 (F 2 6) (F 2 8 + 1)) 2 9 (F 2 9 + F 2 15)) 2 8 (F 2 8 + 1)
theorem od_cpF_c {F : wq_F} {s sp t dp n c i : Nat} (h : c ≠ t) : od_cpF F s sp t dp n c i = F c i := if_neg (fun z => h z.1)
theorem od_cpS {α : Type} {F : wq_F} {s sp t dp n : Nat} {k : wq_F → Option α} : od_cp F s sp t dp n k = k (od_cpF F s sp t dp n) := rfl
theorem dkS_9 {F : wq_F} (h1 : F 2 8 < 3000) (h2 : F 2 6 < 1024) (h3 : F 2 15 ≤ 2200) (h4 : F 2 9 + F 2 15 ≤ 32768) : dk_9 F = some (F 2 8, cs_add F) := by
  unfold dk_9
  rw [if_pos ((wd_slt (by omega) (by omega)).mpr h1), od_letS, Nat.mod_eq_of_lt (show F 2 9 + F 2 15 < 4294967296 by omega), if_neg (fun z => absurd ((wd_slt (by omega) (by omega)).mp z) (by omega)), od_g1 ⟨by omega, h4⟩, od_cpS, od_g1 h1, od_upS, od_g1 h1, od_upS, od_g1 h1, od_upS]
  have e1 : od_cpF F 10 0 3 (F 2 9) (F 2 15) 2 9 = F 2 9 := od_cpF_c (by decide)
  have e2 : ∀ x, wq_up (od_cpF F 10 0 3 (F 2 9) (F 2 15)) 4 (F 2 8) x 2 15 = F 2 15 := fun x => by rw [wq_up_cell (by decide), od_cpF_c (by decide)]
  have e3 : ∀ x y, wq_up (wq_up (od_cpF F 10 0 3 (F 2 9) (F 2 15)) 4 (F 2 8) x) 5 (F 2 8) y 2 6 = F 2 6 := fun x y => by rw [wq_up_cell (by decide), wq_up_cell (by decide), od_cpF_c (by decide)]
  rw [e1, e2, e3]
  have e4 : ∀ x y z, wq_up (wq_up (wq_up (od_cpF F 10 0 3 (F 2 9) (F 2 15)) 4 (F 2 8) x) 5 (F 2 8) y) 8 (F 2 8) z 2 6 = F 2 6 := fun x y z => by rw [wq_up_cell (by decide), wq_up_cell (by decide), wq_up_cell (by decide), od_cpF_c (by decide)]
  have e5 : ∀ x y z, wq_up (wq_up (wq_up (od_cpF F 10 0 3 (F 2 9) (F 2 15)) 4 (F 2 8) x) 5 (F 2 8) y) 8 (F 2 8) z 7 (F 2 6) = F 7 (F 2 6) := fun x y z => by rw [wq_up_cell (by decide), wq_up_cell (by decide), wq_up_cell (by decide), od_cpF_c (by decide)]
  rw [e4, od_g1 h2, od_g1 h1, e5, od_upS, wq_up_cell (by decide), e4, od_g1 h2, od_upS, od_letS]
  have e6 : ∀ x y z u v, wq_up (wq_up (wq_up (wq_up (wq_up (od_cpF F 10 0 3 (F 2 9) (F 2 15)) 4 (F 2 8) x) 5 (F 2 8) y) 8 (F 2 8) z) 6 (F 2 8) u) 7 (F 2 6) v 2 9 = F 2 9 := fun x y z u v => by rw [wq_up_cell (by decide), wq_up_cell (by decide), wq_up_cell (by decide), wq_up_cell (by decide), wq_up_cell (by decide), od_cpF_c (by decide)]
  have e7 : ∀ x y z u v, wq_up (wq_up (wq_up (wq_up (wq_up (od_cpF F 10 0 3 (F 2 9) (F 2 15)) 4 (F 2 8) x) 5 (F 2 8) y) 8 (F 2 8) z) 6 (F 2 8) u) 7 (F 2 6) v 2 15 = F 2 15 := fun x y z u v => by rw [wq_up_cell (by decide), wq_up_cell (by decide), wq_up_cell (by decide), wq_up_cell (by decide), wq_up_cell (by decide), od_cpF_c (by decide)]
  rw [e6, e7, od_upS, wq_up_at (by decide)]
  have e8 : ∀ x y z u v, wq_up (wq_up (wq_up (wq_up (wq_up (od_cpF F 10 0 3 (F 2 9) (F 2 15)) 4 (F 2 8) x) 5 (F 2 8) y) 8 (F 2 8) z) 6 (F 2 8) u) 7 (F 2 6) v 2 8 = F 2 8 := fun x y z u v => by rw [wq_up_cell (by decide), wq_up_cell (by decide), wq_up_cell (by decide), wq_up_cell (by decide), wq_up_cell (by decide), od_cpF_c (by decide)]
  rw [e8, od_upS, Nat.mod_eq_of_lt (show F 2 9 + F 2 15 < 4294967296 by omega), Nat.mod_eq_of_lt (show F 2 8 + 1 < 4294967296 by omega)]
  rfl
theorem cs_add_c {F : wq_F} {c i : Nat} (hc : c ≠ 3 ∧ c ≠ 4 ∧ c ≠ 5 ∧ c ≠ 6 ∧ c ≠ 7 ∧ c ≠ 8) (hi : c = 2 → i ≠ 8 ∧ i ≠ 9) : cs_add F c i = F c i := by
  unfold cs_add
  obtain ⟨h3, h4, h5, h6, h7, h8⟩ := hc
  rw [wq_up_ne (fun z => (hi z.1).1 z.2), wq_up_ne (fun z => (hi z.1).2 z.2), wq_up_cell h7, wq_up_cell h6, wq_up_cell h8, wq_up_cell h5, wq_up_cell h4, od_cpF_c h3]
theorem cs_add_ok {F : wq_F} {ls : List (List Nat)} {b : List Nat} (hR : cs_ok F ls) (hb : bf_is (F 10) b) (hlb : F 2 15 = b.length) (hh : F 2 6 = xh b) (hi : st_ix ls b = none) : cs_ok (cs_add F) (ls ++ [b]) := by
  obtain ⟨r1, r2, hst, r4⟩ := hR
  have hlen : (ls ++ [b]).length = ls.length + 1 := by rw [List.length_append]; rfl
  have hoff : st_off (ls ++ [b]) (ls.length + 1) = st_off ls ls.length + b.length := by
    show st_off (ls ++ [b]) ls.length + ((ls ++ [b]).getD ls.length []).length = _
    rw [st_off_app ls b (Nat.le_refl _), st_getD_last]
  have c4 : ∀ i, cs_add F 4 i = if i = ls.length then st_off ls ls.length else F 4 i := fun i => by
    unfold cs_add
    rw [wq_up_cell (by decide), wq_up_cell (by decide), wq_up_cell (by decide), wq_up_cell (by decide), wq_up_cell (by decide), wq_up_cell (by decide), r1, r2]
    by_cases e : i = ls.length
    · rw [if_pos e, e, wq_up_same]
    · rw [if_neg e, wq_up_at e, od_cpF_c (by decide)]
  have c5 : ∀ i, cs_add F 5 i = if i = ls.length then b.length else F 5 i := fun i => by
    unfold cs_add
    rw [wq_up_cell (by decide), wq_up_cell (by decide), wq_up_cell (by decide), wq_up_cell (by decide), wq_up_cell (by decide), r1, hlb]
    by_cases e : i = ls.length
    · rw [if_pos e, e, wq_up_same]
    · rw [if_neg e, wq_up_at e, wq_up_cell (by decide), od_cpF_c (by decide)]
  have c8 : ∀ i, cs_add F 8 i = if i = ls.length then xh b else F 8 i := fun i => by
    unfold cs_add
    rw [wq_up_cell (by decide), wq_up_cell (by decide), wq_up_cell (by decide), wq_up_cell (by decide), r1, hh]
    by_cases e : i = ls.length
    · rw [if_pos e, e, wq_up_same]
    · rw [if_neg e, wq_up_at e, wq_up_cell (by decide), wq_up_cell (by decide), od_cpF_c (by decide)]
  have c6 : ∀ i, cs_add F 6 i = if i = ls.length then F 7 (xh b) else F 6 i := fun i => by
    unfold cs_add
    rw [wq_up_cell (by decide), wq_up_cell (by decide), wq_up_cell (by decide), r1, hh]
    by_cases e : i = ls.length
    · rw [if_pos e, e, wq_up_same]
    · rw [if_neg e, wq_up_at e, wq_up_cell (by decide), wq_up_cell (by decide), wq_up_cell (by decide), od_cpF_c (by decide)]
  have c7 : ∀ i, cs_add F 7 i = if i = xh b then ls.length + 1 else F 7 i := fun i => by
    unfold cs_add
    rw [wq_up_cell (by decide), wq_up_cell (by decide), r1, hh]
    by_cases e : i = xh b
    · rw [if_pos e, e, wq_up_same]
    · rw [if_neg e, wq_up_at e, wq_up_cell (by decide), wq_up_cell (by decide), wq_up_cell (by decide), wq_up_cell (by decide), od_cpF_c (by decide)]
  have c3 : ∀ i, cs_add F 3 i = if st_off ls ls.length ≤ i ∧ i < st_off ls ls.length + b.length then F 10 (i - st_off ls ls.length) else F 3 i := fun i => by
    unfold cs_add
    rw [wq_up_cell (by decide), wq_up_cell (by decide), wq_up_cell (by decide), wq_up_cell (by decide), wq_up_cell (by decide), wq_up_cell (by decide), wq_up_cell (by decide), r2, hlb]
    unfold od_cpF
    by_cases e : st_off ls ls.length ≤ i ∧ i < st_off ls ls.length + b.length
    · rw [if_pos ⟨rfl, e⟩, if_pos e, Nat.zero_add]
    · rw [if_neg (fun z => e z.2), if_neg e]
  refine ⟨?_, ?_, ?_, fun s hs => ?_⟩
  · rw [hlen]
    unfold cs_add
    rw [wq_up_same, r1]
  · rw [hlen, hoff]
    unfold cs_add
    rw [wq_up_at (by decide), wq_up_same, r2, hlb]
  · refine st_ok_add hst hi ⟨?_, ?_⟩ (fun s hs => ⟨?_, ?_⟩) (fun k hk => ?_) (fun j hj => ?_) ?_ (fun j hj => ?_) (xh_lt b) ?_ (fun s hs => ?_)
    · rw [c4, if_pos rfl]
    · rw [c5, if_pos rfl]
    · rw [c4, if_neg (by omega)]
    · rw [c5, if_neg (by omega)]
    · rw [c3, if_pos (by omega), show st_off ls ls.length + k - st_off ls ls.length = k by omega, hb k hk]
    · rw [c3, if_neg (by omega)]
    · rw [c7, if_pos rfl]
      rfl
    · rw [c7, if_neg hj]
    · rw [c6, if_pos rfl]
    · rw [c6, if_neg (by omega)]
  · rw [c8]
    by_cases e : s = ls.length
    · rw [if_pos e, e, st_getD_last]
    · rw [if_neg e, st_getD_app ls b (by omega)]
      exact r4 s (by omega)
