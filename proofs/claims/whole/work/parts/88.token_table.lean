/-! ===== 88: the reference's readTokens (wip/whole2/88.txt) ===== -/
/-- where token i stands -/
def tk_pos (T : Nat → Nat) (n : Nat) : Nat → Nat
  | 0 => lx_skip T n (n + 1) 0
  | i + 1 => lx_skip T n (n + 1) (tk_E T n (tk_pos T n i))
/-- kind of token i -/
abbrev tk_k (T : Nat → Nat) (n i : Nat) : Nat := tk_K T n (tk_pos T n i)
/-- the table of tokens below m -/
def rt_ok (T : Nat → Nat) (n : Nat) (F : wq_F) (m : Nat) (ls : List (List Nat)) : Prop := ∀ j, j < m → F 10 j = tk_pos T n j ∧ F 9 j = tk_k T n j ∧
  (tk_k T n j = 2 ∨ tk_k T n j = 4 ∨ tk_k T n j = 5 → F 11 j = tk_V T n (tk_pos T n j)) ∧
  (tk_k T n j = 1 ∨ tk_k T n j = 3 → F 11 j < ls.length ∧ ls.getD (F 11 j) [] = tk_B T n (tk_pos T n j) ∧ F 5 (F 11 j) = 1)
def rt_inv (T : Nat → Nat) (n : Nat) (F0 : wq_F) (l0 : List (List Nat)) (m : Nat) (F : wq_F) (ls : List (List Nat)) : Prop :=
  F 0 24 = m ∧ rs_ok F ls ∧ rt_ok T n F m ls ∧ ((∀ s, s < l0.length → ls.getD s [] = l0.getD s []) ∧ l0.length ≤ ls.length ∧ ls.length ≤ l0.length + m) ∧
  (∀ s, s < l0.length → (∀ j, j < m → (tk_k T n j = 1 ∨ tk_k T n j = 3) → F 11 j ≠ s) → F 5 s = F0 5 s) ∧
  (∀ c i, (c < 2 ∨ 11 < c) → (c = 0 → i ≠ 8 ∧ i ≠ 14 ∧ i ≠ 20 ∧ i ≠ 24 ∧ i ≠ 67 ∧ i ≠ 68 ∧ i ≠ 69) → F c i = F0 c i)
def tm_w (G : wq_F) (m p : Nat) : wq_F := wq_up (wq_up (wq_up (wq_up G 9 m (G 0 67)) 10 m p) 11 m (G 0 68 - 18446744073709551616)) 0 24 (m + 1)
theorem tm_w_c {G : wq_F} {m p c i : Nat} (h : c < 9 ∨ 11 < c) (h0 : c = 0 → i ≠ 24) : tm_w G m p c i = G c i := by
  unfold tm_w
  rw [wq_up_ne (fun z => h0 z.1 z.2), wq_up_cell (by omega), wq_up_cell (by omega), wq_up_cell (by omega)]
theorem tm_w_9 {G : wq_F} {m p i : Nat} : tm_w G m p 9 i = if i = m then G 0 67 else G 9 i := by
  unfold tm_w
  rw [wq_up_cell (by decide), wq_up_cell (by decide), wq_up_cell (by decide)]
  by_cases e : i = m
  · rw [if_pos e, e, wq_up_same]
  · rw [if_neg e, wq_up_at e]
theorem tm_w_10 {G : wq_F} {m p i : Nat} : tm_w G m p 10 i = if i = m then p else G 10 i := by
  unfold tm_w
  rw [wq_up_cell (by decide), wq_up_cell (by decide)]
  by_cases e : i = m
  · rw [if_pos e, e, wq_up_same]
  · rw [if_neg e, wq_up_at e, wq_up_cell (by decide)]
theorem tm_w_11 {G : wq_F} {m p i : Nat} : tm_w G m p 11 i = if i = m then G 0 68 - 18446744073709551616 else G 11 i := by
  unfold tm_w
  rw [wq_up_cell (by decide)]
  by_cases e : i = m
  · rw [if_pos e, e, wq_up_same]
  · rw [if_neg e, wq_up_at e, wq_up_cell (by decide), wq_up_cell (by decide)]
theorem dkL_26_91 {nn : Nat} {r : wq_F → Nat → Nat → Option (Nat × wq_F)} {G : wq_F} {m p : Nat} (hm : G 0 24 = m) (h : m < 1502) : dk_26_91 nn r G p = if G 0 67 = 6 ∨ G 0 67 = 7 ∨ 1500 < m + 1 then r (tm_w G m p) p 0 else (dk_27 (tm_w G m p) (G 0 69)).bind fun y => r y.2 y.1 1 := by
  have a1 : ∀ x, wq_up G 9 m x 0 24 = m := fun x => by rw [wq_up_cell (by decide)]; exact hm
  have a2 : ∀ x y, wq_up (wq_up G 9 m x) 10 m y 0 24 = m := fun x y => by rw [wq_up_cell (by decide)]; exact a1 x
  have a3 : ∀ x y, wq_up (wq_up G 9 m x) 10 m y 0 68 = G 0 68 := fun x y => by rw [wq_up_cell (by decide), wq_up_cell (by decide)]
  have a4 : ∀ x y z, wq_up (wq_up (wq_up G 9 m x) 10 m y) 11 m z 0 24 = m := fun x y z => by rw [wq_up_cell (by decide)]; exact a2 x y
  unfold dk_26_91
  rw [hm, od_g1 h, od_upS, a1, od_g1 h, od_upS, a2, od_g1 h, od_upS, a3, od_letS, a4, od_upS, Nat.mod_eq_of_lt (show m + 1 < 4294967296 by omega)]
  show (if tm_w G m p 0 67 = 6 then dk_26_170 nn r (tm_w G m p) p 0 else if tm_w G m p 0 67 = 7 then dk_26_170 nn r (tm_w G m p) p 0 else if ev_s 1500 < ev_s (tm_w G m p 0 24) then dk_26_170 nn r (tm_w G m p) p 0 else dk_26_170 nn r (tm_w G m p) p 1) = _
  have e67 : tm_w G m p 0 67 = G 0 67 := tm_w_c (by decide) (by decide)
  have e69 : tm_w G m p 0 69 = G 0 69 := tm_w_c (by decide) (by decide)
  have e24 : tm_w G m p 0 24 = m + 1 := wq_up_same _ _ _ _
  have z0 : dk_26_170 nn r (tm_w G m p) p 0 = r (tm_w G m p) p 0 := if_pos rfl
  have z1 : dk_26_170 nn r (tm_w G m p) p 1 = (dk_27 (tm_w G m p) (G 0 69)).bind fun y => r y.2 y.1 1 := by
    unfold dk_26_170
    rw [if_neg (by decide), e69]
  rw [e67, e24, z0, z1]
  by_cases h6 : G 0 67 = 6
  · rw [if_pos h6, if_pos (Or.inl h6)]
  rw [if_neg h6]
  by_cases h7 : G 0 67 = 7
  · rw [if_pos h7, if_pos (Or.inr (Or.inl h7))]
  rw [if_neg h7]
  by_cases h8 : 1500 < m + 1
  · rw [if_pos ((wd_slt (by decide) (by omega)).mpr h8), if_pos (Or.inr (Or.inr h8))]
  · rw [if_neg (fun z => h8 ((wd_slt (by decide) (by omega)).mp z)), if_neg (by omega)]
theorem tk_B_len {T : Nat → Nat} {n p : Nat} (h : tk_K T n p = 1 ∨ tk_K T n p = 3) : (tk_B T n p).length ≤ tk_E T n p - p := by
  have hp : p < n := by
    by_cases z : p < n
    · exact z
    · have : tk_K T n p = 6 := if_pos z
      omega
  unfold tk_B tk_E
  have hK := tk_K_in (T := T) hp
  by_cases a : ¬ lx_letter (T p) = 0
  · rw [if_pos a, if_pos a, lx_bytes_len]
    exact Nat.le_refl _
  · rw [if_neg a, if_neg a]
    rw [if_neg a] at hK
    by_cases b : ¬ lx_digit (T p) = 0
    · rw [if_pos b] at hK
      have := (lx_num_b hp b).1
      omega
    · rw [if_neg b] at hK
      rw [if_neg b]
      by_cases c : T p = 34 ∨ T p = 39
      · rw [if_pos c]
        have := (lx_qs_b (T := T) (n := n) (q := T p) n (p + 1)).2.1
        show (lx_str T n p).1.length ≤ (lx_str T n p).2.1 + 1 - p
        have h2 : (lx_str T n p).1.length + (p + 1) ≤ (lx_str T n p).2.1 := this
        omega
      · rw [if_neg c] at hK
        exfalso
        by_cases d : (lx_sgn T n p).1 = 0
        · rw [if_pos d] at hK; omega
        · rw [if_neg d] at hK; omega
theorem lx_skip_ge {T : Nat → Nat} {n : Nat} : ∀ f k : Nat, k ≤ lx_skip T n f k
  | 0, k => Nat.le_refl _
  | f + 1, k => by
    by_cases h1 : lx_at T n k = 45 ∧ lx_at T n (k + 1) = 45
    · rw [lx_skip_l h1.1 h1.2]
      exact Nat.le_trans (lx_line_ge n k) (lx_skip_ge f _)
    · by_cases h2 : lx_at T n k = 32 ∨ lx_at T n k = 9 ∨ lx_at T n k = 13 ∨ lx_at T n k = 10
      · rw [lx_skip_b h1 h2]
        exact Nat.le_trans (Nat.le_succ _) (lx_skip_ge f _)
      · rw [lx_skip_e h1 h2]
        exact Nat.le_refl _
/-- one token more in the table -/
theorem rt_step {T : Nat → Nat} {n m : Nat} {F0 F G : wq_F} {l0 ls ms : List (List Nat)} (h : rt_inv T n F0 l0 m F ls) (t : tm_tok T n (tk_pos T n m) F ls G ms) : rt_inv T n F0 l0 (m + 1) (tm_w G m (tk_pos T n m)) ms ∧ st_off ms ms.length ≤ st_off ls ls.length + (if tk_k T n m = 1 ∨ tk_k T n m = 3 then tk_E T n (tk_pos T n m) - tk_pos T n m else 0) := by
  obtain ⟨i1, i2, i3, ⟨i4, i5, i6⟩, i7, i8⟩ := h
  obtain ⟨t1, t2, t3, t4, t5, t6, t7⟩ := t
  have hms : ms = ls ∨ ms = st_with ls (tk_B T n (tk_pos T n m)) := by
    by_cases q : tk_K T n (tk_pos T n m) = 1 ∨ tk_K T n (tk_pos T n m) = 3
    · obtain ⟨s, _, _, _, e, _⟩ := t5 q
      exact Or.inr e
    · exact Or.inl (t4 q).1
  have hlen : ls.length ≤ ms.length ∧ ms.length ≤ ls.length + 1 := by
    rcases hms with e | e
    · rw [e]; exact ⟨Nat.le_refl _, Nat.le_succ _⟩
    · rw [e]; exact st_with_len _ _
  have hget : ∀ s, s < ls.length → ms.getD s [] = ls.getD s [] := fun s hs => by
    rcases hms with e | e
    · rw [e]
    · rw [e]; exact st_with_get _ _ hs
  have h5 : ∀ i, G 5 i = 1 ∨ G 5 i = F 5 i := fun i => by
    by_cases q : tk_K T n (tk_pos T n m) = 1 ∨ tk_K T n (tk_pos T n m) = 3
    · obtain ⟨s, _, _, _, _, e⟩ := t5 q
      rw [e i]
      by_cases z : i = s
      · rw [if_pos z]; exact Or.inl rfl
      · rw [if_neg z]; exact Or.inr rfl
    · exact Or.inr ((t4 q).2 i)
  have fr : ∀ c i, 8 < c → G c i = F c i := fun c i hc => t7 c i (Or.inr hc) (by omega)
  refine ⟨⟨wq_up_same _ _ _ _, rs_ok_up t6 ⟨tm_w_c (by decide) (by decide), tm_w_c (by decide) (by decide)⟩ (fun c hc => by
    funext i
    exact tm_w_c (by omega) (by omega)), fun j hj => ?_, ⟨fun s hs => ?_, by omega, by omega⟩, fun s hs hj => ?_, fun c i hc hi => ?_⟩, ?_⟩
  · rw [tm_w_9, tm_w_10, tm_w_11]
    by_cases e : j = m
    · subst e
      rw [if_pos rfl, if_pos rfl, if_pos rfl]
      refine ⟨rfl, t1, fun q => ?_, fun q => ?_⟩
      · rw [t3 q, Nat.add_sub_cancel_left]
      · obtain ⟨s, s1, s2, s3, s4, s5⟩ := t5 q
        rw [s1, Nat.add_sub_cancel_left]
        refine ⟨s2, s3, ?_⟩
        rw [tm_w_c (by decide) (by omega), s5, if_pos rfl]
    · rw [if_neg e, if_neg e, if_neg e, fr 9 j (by decide), fr 10 j (by decide), fr 11 j (by decide)]
      obtain ⟨a1, a2, a3, a4⟩ := i3 j (by omega)
      refine ⟨a1, a2, a3, fun q => ?_⟩
      obtain ⟨b1, b2, b3⟩ := a4 q
      refine ⟨by omega, by rw [hget _ b1]; exact b2, ?_⟩
      rw [tm_w_c (by decide) (by omega)]
      rcases h5 (F 11 j) with z | z
      · exact z
      · rw [z]; exact b3
  · rw [hget s (by omega)]
    exact i4 s hs
  · rw [tm_w_c (by decide) (by omega)]
    have hF : F 5 s = F0 5 s := i7 s hs (fun j hj2 q => by
      have := hj j (by omega) q
      rw [tm_w_11, if_neg (by omega), fr 11 j (by decide)] at this
      exact this)
    rw [← hF]
    by_cases q : tk_K T n (tk_pos T n m) = 1 ∨ tk_K T n (tk_pos T n m) = 3
    · obtain ⟨u, u1, _, _, _, u5⟩ := t5 q
      have := hj m (by omega) q
      rw [tm_w_11, if_pos rfl, u1, Nat.add_sub_cancel_left] at this
      rw [u5, if_neg (fun z => this z.symm)]
    · exact (t4 q).2 s
  · rw [tm_w_c (by omega) (fun z => by have := hi z; omega), t7 c i (by omega) (fun z => by have := hi z; omega)]
    exact i8 c i hc hi
  · by_cases q : tk_k T n m = 1 ∨ tk_k T n m = 3
    · rw [if_pos q]
      obtain ⟨s, _, _, _, e, _⟩ := t5 q
      rw [e]
      exact Nat.le_trans (st_with_off _ _) (Nat.add_le_add_left (tk_B_len q) _)
    · rw [if_neg q, (t4 q).1]
      exact Nat.le_refl _
/-- the table of all tokens -/
theorem dkS_26_13 {nn : Nat} {T : Nat → Nat} {n O : Nat} {F0 : wq_F} {l0 : List (List Nat)} (hT : F0 1 = T) (hF : F0 0 2 = n) (hn6 : n ≤ 6000) (hC : ∀ i, i < n → T i < 256) (hn : 6002 < nn) (hl0 : l0.length ≤ 1400) (hO : O ≤ 20000) : ∀ g m : Nat, ∀ (F : wq_F) (ls : List (List Nat)), 1502 - m < g → m ≤ 1500 → (∀ j, j < m → ¬ tk_k T n j = 6 ∧ ¬ tk_k T n j = 7) → rt_inv T n F0 l0 m F ls → st_off ls ls.length ≤ O + tk_pos T n m → tk_pos T n m ≤ n →
    ∃ (M : Nat) (G : wq_F) (ms : List (List Nat)), dk_26_13 nn g F (tk_pos T n m) 1 = some (0, G) ∧ M ≤ 1500 ∧ (∀ j, j < M → ¬ tk_k T n j = 6 ∧ ¬ tk_k T n j = 7) ∧ (M = 1500 ∨ tk_k T n M = 6 ∨ tk_k T n M = 7) ∧ rt_inv T n F0 l0 (M + 1) G ms ∧ st_off ms ms.length ≤ O + n + 6000
  | 0, m, _, _, h, _, _, _, _, _ => absurd h (by omega)
  | g + 1, m, F, ls, h1, h2, h3, h4, h5, h6 => by
    have hF1 : F 1 = T := by
      rw [← hT]
      funext i
      exact h4.2.2.2.2.2 1 i (by decide) (by omega)
    have hF2 : F 0 2 = n := by
      rw [← hF]
      exact h4.2.2.2.2.2 0 2 (by decide) (by decide)
    have hls := h4.2.2.2.1.2.2
    show ∃ (M : Nat) (G : wq_F) (ms : List (List Nat)), dk_26_13b nn (dk_26_13 nn g) F (tk_pos T n m) 1 = some (0, G) ∧ _
    obtain ⟨G, ms, e, t⟩ := dkL_26_b (r := dk_26_13 nn g) hF2 hn6 h6 (by rw [hF1]; exact hC) h4.2.1 hn (by omega) (by omega) (by omega)
    rw [hF1] at t
    have st := rt_step h4 t
    have hG24 : G 0 24 = m := by
      rw [t.2.2.2.2.2.2 0 24 (by decide) (by decide)]
      exact h4.1
    rw [e, dkL_26_91 hG24 (by omega), t.1]
    have hstep : (if tk_k T n m = 1 ∨ tk_k T n m = 3 then tk_E T n (tk_pos T n m) - tk_pos T n m else 0) ≤ n := by
      by_cases q : tk_k T n m = 1 ∨ tk_k T n m = 3
      · rw [if_pos q]
        have q' : tk_K T n (tk_pos T n m) = 1 ∨ tk_K T n (tk_pos T n m) = 3 := q
        have := tk_E_b (T := T) (n := n) (p := tk_pos T n m) (by omega) (by omega)
        omega
      · rw [if_neg q]
        exact Nat.zero_le _
    by_cases z : tk_K T n (tk_pos T n m) = 6 ∨ tk_K T n (tk_pos T n m) = 7 ∨ 1500 < m + 1
    · rw [if_pos z]
      obtain ⟨g, rfl⟩ : ∃ g', g = g' + 1 := ⟨g - 1, by omega⟩
      refine ⟨m, tm_w G m (tk_pos T n m), ms, ?_, h2, h3, ?_, st.1, by omega⟩
      · show dk_26_13b nn (dk_26_13 nn g) (tm_w G m (tk_pos T n m)) (tk_pos T n m) 0 = _
        unfold dk_26_13b
        rw [if_pos rfl]
      · rcases z with z | z | z
        · exact Or.inr (Or.inl z)
        · exact Or.inr (Or.inr z)
        · left; omega
    · rw [if_neg z]
      have k6 : ¬ tk_K T n (tk_pos T n m) = 6 := fun y => z (Or.inl y)
      have k7 : ¬ tk_K T n (tk_pos T n m) = 7 := fun y => z (Or.inr (Or.inl y))
      have hb := tk_E_b k6 k7
      have hW1 : tm_w G m (tk_pos T n m) 1 = T := by
        funext i
        rw [tm_w_c (by decide) (by omega), t.2.2.2.2.2.2 1 i (by decide) (by omega), hF1]
      have hW2 : tm_w G m (tk_pos T n m) 0 2 = n := by
        rw [tm_w_c (by decide) (by decide), t.2.2.2.2.2.2 0 2 (by decide) (by decide), hF2]
      have hd : dk_27 (tm_w G m (tk_pos T n m)) (G 0 69) = some (tk_pos T n (m + 1), tm_w G m (tk_pos T n m)) := by
        unfold dk_27
        rw [hW1, hW2, t.2.1 ⟨k6, k7⟩, od_g1 ⟨hn6, hC, hb.2.2.1⟩]
        rfl
      rw [hd, od_bS]
      have hge : tk_E T n (tk_pos T n m) ≤ tk_pos T n (m + 1) := lx_skip_ge _ _
      have hle : tk_pos T n (m + 1) ≤ n := lx_skip_le _ _ hb.2.2.1
      refine dkS_26_13 hT hF hn6 hC hn hl0 hO g (m + 1) _ ms (by omega) (by omega) (fun j hj => ?_) st.1 ?_ hle
      · by_cases y : j = m
        · rw [y]; exact ⟨k6, k7⟩
        · exact h3 j (by omega)
      · have h8 := st.2
        by_cases q : tk_k T n m = 1 ∨ tk_k T n m = 3
        · rw [if_pos q] at h8
          omega
        · rw [if_neg q] at h8
          omega
/-- the reference's readTokens -/
theorem dkS_26 {nn : Nat} {T : Nat → Nat} {n O : Nat} {F : wq_F} {l0 : List (List Nat)} (hT : F 1 = T) (hF : F 0 2 = n) (hn6 : n ≤ 6000) (hC : ∀ i, i < n → T i < 256) (hn : 6002 < nn) (hl0 : l0.length ≤ 1400) (hO : O ≤ 20000) (hR : rs_ok F l0) (ho : st_off l0 l0.length ≤ O) :
    ∃ (M : Nat) (G : wq_F) (ms : List (List Nat)), dk_26 nn F = some (0, G) ∧ M ≤ 1500 ∧ (∀ j, j < M → ¬ tk_k T n j = 6 ∧ ¬ tk_k T n j = 7) ∧ (M = 1500 ∨ tk_k T n M = 6 ∨ tk_k T n M = 7) ∧ rt_inv T n F l0 (M + 1) G ms ∧ st_off ms ms.length ≤ O + n + 6000 := by
  have h1 : wq_up F 0 24 0 1 = T := by
    rw [← hT]
    funext i
    exact wq_up_cell (by decide)
  have h2 : wq_up F 0 24 0 0 2 = n := by rw [wq_up_at (by decide)]; exact hF
  have hd : dk_27 (wq_up F 0 24 0) 0 = some (tk_pos T n 0, wq_up F 0 24 0) := by
    unfold dk_27
    rw [h1, h2, od_g1 ⟨hn6, hC, Nat.zero_le _⟩]
    rfl
  unfold dk_26
  rw [od_upS, hd, od_bS]
  refine dkS_26_13 hT hF hn6 hC hn hl0 hO nn 0 (wq_up F 0 24 0) l0 (by omega) (by omega) (fun j hj => absurd hj (Nat.not_lt_zero _)) ⟨wq_up_same _ _ _ _, rs_ok_f hR (by decide) (by decide), fun j hj => absurd hj (Nat.not_lt_zero _), ⟨fun _ _ => rfl, Nat.le_refl _, Nat.le_refl _⟩, fun s hs _ => wq_up_cell (by decide), fun c i hc hi => wq_up_ne (fun z => (hi z.1).2.2.2.1 z.2)⟩ (by omega) (lx_skip_le _ _ (Nat.zero_le _))
