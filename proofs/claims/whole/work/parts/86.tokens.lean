/-! ===== 86: what stands at a place of the text: kind, end, value, bytes (wip/whole2/86.txt) ===== -/
abbrev tk_e (T : Nat → Nat) (n p : Nat) : Nat := lx_nend T n (n - p) p
abbrev tk_nb (T : Nat → Nat) (n p : Nat) : List Nat := lx_bytes T p (tk_e T n p - p)
/-- the kind of the token at a place: 1 name, 2 whole number, 3 string, 4 word, 5 sign, 6 the end, 7 none -/
def tk_K (T : Nat → Nat) (n p : Nat) : Nat :=
  if ¬ p < n then 6
  else if ¬ lx_letter (T p) = 0 then (if 0 < lx_word (tk_nb T n p) then 4 else if 30 < tk_e T n p - p then 7 else 1)
  else if ¬ lx_digit (T p) = 0 then (lx_num T n p).1
  else if T p = 34 ∨ T p = 39 then (if (lx_str T n p).2.2 = 1 ∧ lx_at T n (lx_str T n p).2.1 = T p ∧ (lx_str T n p).1.length ≤ 200 then 3 else 7)
  else if (lx_sgn T n p).1 = 0 then 7 else 5
/-- where it ends -/
def tk_E (T : Nat → Nat) (n p : Nat) : Nat :=
  if ¬ lx_letter (T p) = 0 then tk_e T n p
  else if ¬ lx_digit (T p) = 0 then (lx_num T n p).2.2
  else if T p = 34 ∨ T p = 39 then (lx_str T n p).2.1 + 1
  else (lx_sgn T n p).2
/-- its value: of a whole number, a word, a sign -/
def tk_V (T : Nat → Nat) (n p : Nat) : Nat :=
  if ¬ lx_letter (T p) = 0 then lx_word (tk_nb T n p)
  else if ¬ lx_digit (T p) = 0 then (lx_num T n p).2.1 - 18446744073709551616
  else (lx_sgn T n p).1
/-- its bytes: of a name, a string -/
def tk_B (T : Nat → Nat) (n p : Nat) : List Nat := if ¬ lx_letter (T p) = 0 then tk_nb T n p else (lx_str T n p).1
/-! numbers -/
theorem lx_hexv_b {T : Nat → Nat} {n : Nat} : ∀ f k v : Nat, ev_isL v = true → k ≤ (lx_hexv T n f k v).1 ∧ (k ≤ n → (lx_hexv T n f k v).1 ≤ n) ∧ ev_isL (lx_hexv T n f k v).2 = true ∧ ∀ j, k ≤ j → j < (lx_hexv T n f k v).1 → ¬ lx_at T n j = 10
  | 0, k, v, hv => ⟨Nat.le_refl _, fun h => h, hv, fun j h1 h2 => absurd (show j < k from h2) (by omega)⟩
  | f + 1, k, v, hv => by
    by_cases q : lx_hex (lx_at T n k) < 2147483648
    · rw [lx_hexv_s q]
      have hk : k < n := lx_hex_in q
      have h := lx_hexv_b (T := T) (n := n) f (k + 1) (ev_oOrL (ev_oShlL v 4) (ev_oI2l (lx_hex (lx_at T n k)))) (wq_Lof (BitVec.isLt _))
      refine ⟨by omega, fun _ => h.2.1 (by omega), h.2.2.1, fun j h1 h2 => ?_⟩
      by_cases e : j = k
      · subst e
        intro z
        rw [z] at q
        exact absurd q (by decide)
      · exact h.2.2.2 j (by omega) h2
    · rw [lx_hexv_e q]
      exact ⟨Nat.le_refl _, fun h => h, hv, fun j h1 h2 => absurd (show j < k from h2) (by omega)⟩
theorem lx_decv_b {T : Nat → Nat} {n : Nat} : ∀ f k v g : Nat, ev_isL v = true → k ≤ (lx_decv T n f k v g).1 ∧ (k ≤ n → (lx_decv T n f k v g).1 ≤ n) ∧ ev_isL (lx_decv T n f k v g).2.1 = true ∧ ∀ j, k ≤ j → j < (lx_decv T n f k v g).1 → ¬ lx_at T n j = 10
  | 0, k, v, g, hv => ⟨Nat.le_refl _, fun h => h, hv, fun j h1 h2 => absurd (show j < k from h2) (by omega)⟩
  | f + 1, k, v, g, hv => by
    by_cases q : lx_digit (lx_at T n k) = 0
    · rw [lx_decv_e q]
      exact ⟨Nat.le_refl _, fun h => h, hv, fun j h1 h2 => absurd (show j < k from h2) (by omega)⟩
    · rw [lx_decv_s q]
      have hk : k < n := lx_digit_in q
      have h := lx_decv_b (T := T) (n := n) f (k + 1) (lx_dec1 v (lx_at T n k)) (lx_good v g (lx_at T n k)) (lx_dec1_L _ _)
      refine ⟨by omega, fun _ => h.2.1 (by omega), h.2.2.1, fun j h1 h2 => ?_⟩
      by_cases e : j = k
      · subst e
        have := lx_digit9 q
        omega
      · exact h.2.2.2 j (by omega) h2
theorem lx_fin27 (T : Nat → Nat) (n k g : Nat) : lx_fin T n k g = 2 ∨ lx_fin T n k g = 7 := by
  unfold lx_fin
  by_cases q : ¬ g = 0 ∧ lx_letter (lx_at T n k) = 0 ∧ lx_digit (lx_at T n k) = 0
  · rw [if_pos q]; exact Or.inl rfl
  · rw [if_neg q]; exact Or.inr rfl
theorem lx_num_b {T : Nat → Nat} {n p : Nat} (hp : p < n) (hd : ¬ lx_digit (T p) = 0) : ((lx_num T n p).1 = 2 ∨ (lx_num T n p).1 = 7) ∧ ev_isL (lx_num T n p).2.1 = true ∧ p < (lx_num T n p).2.2 ∧ (lx_num T n p).2.2 ≤ n ∧ ∀ j, p ≤ j → j < (lx_num T n p).2.2 → ¬ T j = 10 := by
  have hat : ∀ j, j < n → lx_at T n j = T j := fun j h => lx_at_of h
  unfold lx_num
  by_cases q : lx_at T n p = 48 ∧ lx_at T n (p + 1) = 120
  · rw [if_pos q]
    have h1 : p + 1 < n := lx_at_in (T := T) (by omega)
    have h := lx_hexv_b (T := T) (n := n) n (p + 2) 18446744073709551616 (by decide)
    have hle := h.2.1 (by omega)
    refine ⟨lx_fin27 _ _ _ _, h.2.2.1, by show p < (lx_hexv T n n (p + 2) 18446744073709551616).1; omega, hle, fun j h2 h3 => ?_⟩
    have h3 : j < (lx_hexv T n n (p + 2) 18446744073709551616).1 := h3
    have e := hat j (by omega)
    by_cases z : j = p
    · rw [← hat p hp] at hd
      subst z
      omega
    · by_cases z2 : j = p + 1
      · subst z2
        omega
      · have := h.2.2.2 j (by omega) h3
        omega
  · rw [if_neg q]
    have h := lx_decv_b (T := T) (n := n) n p 18446744073709551616 1 (by decide)
    have hle := h.2.1 (by omega)
    have hgt := nx_decv_gt (T := T) (n := n) (f := n) (k := p) (v := 18446744073709551616) (g := 1) (by omega) (by rw [hat p hp]; exact hd)
    refine ⟨lx_fin27 _ _ _ _, h.2.2.1, hgt, hle, fun j h2 h3 => ?_⟩
    have h3 : j < (lx_decv T n n p 18446744073709551616 1).1 := h3
    have e := hat j (by omega)
    have := h.2.2.2 j h2 h3
    omega
/-! strings -/
theorem lx_dg_b {T : Nat → Nat} {n : Nat} : ∀ f k v j : Nat, k ≤ j → j < (lx_dg T n f k v).2 → j < n ∧ ¬ T j = 10
  | 0, k, v, j, h1, h2 => absurd (show j < k from h2) (by omega)
  | f + 1, k, v, j, h1, h2 => by
    by_cases q : lx_digit (lx_at T n k) = 0
    · rw [lx_dg_e q] at h2
      exact absurd (show j < k from h2) (by omega)
    · rw [lx_dg_s q] at h2
      have h9 := lx_digit9 q
      have hk : k < n := lx_digit_in q
      by_cases e : j = k
      · subst e
        rw [lx_at_of hk] at h9
        exact ⟨hk, by omega⟩
      · exact lx_dg_b f (k + 1) _ j (by omega) h2
theorem lx_es_b {T : Nat → Nat} {n k v m : Nat} (h : lx_es T n k = some (v, m)) : ∀ j, k ≤ j → j < k + m → j < n ∧ ¬ T j = 10 := by
  intro j h1 h2
  have hm := lx_es_lt h
  have one : ∀ c, lx_at T n k = c → c < 128 → ¬ c = 10 → m = 1 → j < n ∧ ¬ T j = 10 := fun c hc h3 h4 h5 => by
    have e : j = k := by omega
    subst e
    have hk : j < n := lx_at_in (T := T) (by omega)
    rw [lx_at_of hk] at hc
    exact ⟨hk, by omega⟩
  unfold lx_es at h
  by_cases a1 : lx_at T n k = 110
  · rw [if_pos a1] at h; cases h; exact one _ a1 (by decide) (by decide) rfl
  rw [if_neg a1] at h
  by_cases a2 : lx_at T n k = 116
  · rw [if_pos a2] at h; cases h; exact one _ a2 (by decide) (by decide) rfl
  rw [if_neg a2] at h
  by_cases a3 : lx_at T n k = 92 ∨ lx_at T n k = 34 ∨ lx_at T n k = 39
  · rw [if_pos a3] at h
    cases h
    exact one _ rfl (by omega) (by omega) rfl
  rw [if_neg a3] at h
  by_cases a4 : lx_digit (lx_at T n k) = 0
  · rw [if_pos a4] at h; cases h
  rw [if_neg a4] at h
  by_cases a5 : 255 < (lx_dg T n 3 k 0).1
  · rw [if_pos a5] at h; cases h
  rw [if_neg a5] at h
  have hd := (lx_dg3 (T := T) (n := n) (k := k)).2.1
  cases h
  exact lx_dg_b 3 k 0 j h1 (by omega)
theorem lx_qs_b {T : Nat → Nat} {n q : Nat} : ∀ f k : Nat, k ≤ (lx_qs T n q f k).2.1 ∧ (lx_qs T n q f k).1.length + k ≤ (lx_qs T n q f k).2.1 ∧ (∀ j, k ≤ j → j < (lx_qs T n q f k).2.1 → ¬ T j = 10) ∧ ∀ i, i < (lx_qs T n q f k).1.length → ev_b8 ((lx_qs T n q f k).1.getD i 0) = (lx_qs T n q f k).1.getD i 0
  | 0, k => ⟨Nat.le_refl _, by show 0 + k ≤ k; omega, fun j h1 h2 => absurd (show j < k from h2) (by omega), fun i h => absurd h (Nat.not_lt_zero _)⟩
  | f + 1, k => by
    have nil : k ≤ (([], k, 1) : List Nat × Nat × Nat).2.1 ∧ (([], k, 1) : List Nat × Nat × Nat).1.length + k ≤ (([], k, 1) : List Nat × Nat × Nat).2.1 ∧ (∀ j, k ≤ j → j < (([], k, 1) : List Nat × Nat × Nat).2.1 → ¬ T j = 10) ∧ ∀ i, i < (([], k, 1) : List Nat × Nat × Nat).1.length → ev_b8 ((([], k, 1) : List Nat × Nat × Nat).1.getD i 0) = (([], k, 1) : List Nat × Nat × Nat).1.getD i 0 := ⟨Nat.le_refl _, by show 0 + k ≤ k; omega, fun j h1 h2 => absurd (show j < k from h2) (by omega), fun i h => absurd h (Nat.not_lt_zero _)⟩
    by_cases c : k < n ∧ ¬ T k = q ∧ ¬ T k = 10
    · by_cases a5 : T k = 92
      · cases hes : lx_es T n (k + 1) with
        | none =>
          rw [lx_qs_n c a5 hes]
          exact nil
        | some vm =>
          obtain ⟨v, m⟩ := vm
          have hm := lx_es_lt hes
          have h := lx_qs_b (T := T) (n := n) (q := q) f (k + 1 + m)
          rw [lx_qs_s c a5 hes]
          refine ⟨by show k ≤ (lx_qs T n q f (k + 1 + m)).2.1; omega, ?_, fun j h1 h2 => ?_, fun i hi => ?_⟩
          · show (lx_qs T n q f (k + 1 + m)).1.length + 1 + k ≤ (lx_qs T n q f (k + 1 + m)).2.1
            omega
          · by_cases e : j = k
            · rw [e]; exact c.2.2
            · by_cases e2 : j < k + 1 + m
              · exact (lx_es_b hes j (by omega) e2).2
              · exact h.2.2.1 j (by omega) h2
          · cases i with
            | zero => exact wm_b8b8 v
            | succ i => exact h.2.2.2 i (by have hi : i + 1 < (lx_qs T n q f (k + 1 + m)).1.length + 1 := hi; omega)
      · have h := lx_qs_b (T := T) (n := n) (q := q) f (k + 1)
        rw [lx_qs_c c a5]
        refine ⟨by show k ≤ (lx_qs T n q f (k + 1)).2.1; omega, ?_, fun j h1 h2 => ?_, fun i hi => ?_⟩
        · show (lx_qs T n q f (k + 1)).1.length + 1 + k ≤ (lx_qs T n q f (k + 1)).2.1
          omega
        · by_cases e : j = k
          · rw [e]; exact c.2.2
          · exact h.2.2.1 j (by omega) h2
        · cases i with
          | zero => exact wm_b8b8 (T k)
          | succ i => exact h.2.2.2 i (by have hi : i + 1 < (lx_qs T n q f (k + 1)).1.length + 1 := hi; omega)
    · rw [lx_qs_e c]
      exact nil
/-! signs -/
theorem lx_sgn_b {T : Nat → Nat} {n p : Nat} (hp : p < n) (h : ¬ (lx_sgn T n p).1 = 0) : p < (lx_sgn T n p).2 ∧ (lx_sgn T n p).2 ≤ n ∧ ∀ j, p ≤ j → j < (lx_sgn T n p).2 → ¬ T j = 10 := by
  have hat : ∀ j, j < n → lx_at T n j = T j := fun j h => lx_at_of h
  have hin : ∀ j c, lx_at T n j = c → c < 128 → j < n ∧ T j = c := fun j c hc h1 => by
    have h2 : j < n := lx_at_in (T := T) (by omega)
    exact ⟨h2, by rw [← hat j h2]; exact hc⟩
  by_cases a : lx_at T n p = 46 ∧ lx_at T n (p + 1) = 46 ∧ lx_at T n (p + 2) = 46
  · have e : lx_sgn T n p = (301, p + 3) := if_pos a
    rw [e]
    have h1 := hin _ _ a.1 (by decide)
    have h2 := hin _ _ a.2.1 (by decide)
    have h3 := hin _ _ a.2.2 (by decide)
    refine ⟨by show p < p + 3; omega, by show p + 3 ≤ n; omega, fun j h4 h5 => ?_⟩
    have h5 : j < p + 3 := h5
    rcases (show j = p ∨ j = p + 1 ∨ j = p + 2 by omega) with z | z | z
    · rw [z]; omega
    · rw [z]; omega
    · rw [z]; omega
  · by_cases b : 0 < lx_p0 (lx_at T n p) (lx_at T n (p + 1))
    · have e : lx_sgn T n p = (lx_p0 (lx_at T n p) (lx_at T n (p + 1)), p + 2) := (if_neg a).trans (if_pos b)
      rw [e]
      have hd : (lx_at T n p = 61 ∨ lx_at T n p = 126 ∨ lx_at T n p = 60 ∨ lx_at T n p = 62 ∨ lx_at T n p = 47 ∨ lx_at T n p = 46) ∧ (lx_at T n (p + 1) = 61 ∨ lx_at T n (p + 1) = 60 ∨ lx_at T n (p + 1) = 62 ∨ lx_at T n (p + 1) = 47 ∨ lx_at T n (p + 1) = 46) := by
        by_cases z : (lx_at T n p = 61 ∨ lx_at T n p = 126 ∨ lx_at T n p = 60 ∨ lx_at T n p = 62 ∨ lx_at T n p = 47 ∨ lx_at T n p = 46) ∧ (lx_at T n (p + 1) = 61 ∨ lx_at T n (p + 1) = 60 ∨ lx_at T n (p + 1) = 62 ∨ lx_at T n (p + 1) = 47 ∨ lx_at T n (p + 1) = 46)
        · exact z
        · exfalso
          have : lx_p0 (lx_at T n p) (lx_at T n (p + 1)) = 0 := by
            unfold lx_p0 lx_p1 lx_p2 lx_p3 lx_p4 lx_p5 lx_p6 lx_p7
            rw [if_neg (by omega), if_neg (by omega), if_neg (by omega), if_neg (by omega), if_neg (by omega), if_neg (by omega), if_neg (by omega), if_neg (by omega)]
          omega
      have h1 : p + 1 < n ∧ T (p + 1) = lx_at T n (p + 1) := by
        have := hin (p + 1) _ rfl (by omega)
        exact this
      have h2 := hat p hp
      refine ⟨by show p < p + 2; omega, by show p + 2 ≤ n; omega, fun j h4 h5 => ?_⟩
      have h5 : j < p + 2 := h5
      rcases (show j = p ∨ j = p + 1 by omega) with z | z
      · rw [z]; omega
      · rw [z]; omega
    · have e : lx_sgn T n p = (if lx_ix (lx_at T n p) = 4294967295 then 0 else lx_at T n p, p + 1) := (if_neg a).trans (if_neg b)
      rw [e] at h ⊢
      refine ⟨by show p < p + 1; omega, by show p + 1 ≤ n; omega, fun j h4 h5 => ?_⟩
      have h5 : j < p + 1 := h5
      have z : j = p := by omega
      rw [z]
      intro w
      apply h
      show (if lx_ix (lx_at T n p) = 4294967295 then 0 else lx_at T n p) = 0
      rw [hat p hp, w]
      rfl
/-- a token takes some bytes, and no line's end -/
theorem tk_E_b {T : Nat → Nat} {n p : Nat} (h6 : ¬ tk_K T n p = 6) (h7 : ¬ tk_K T n p = 7) : p < n ∧ p < tk_E T n p ∧ tk_E T n p ≤ n ∧ ∀ j, p ≤ j → j < tk_E T n p → ¬ T j = 10 := by
  have hp : p < n := by
    by_cases z : p < n
    · exact z
    · exact absurd (if_pos z) h6
  refine ⟨hp, ?_⟩
  have hat : lx_at T n p = T p := lx_at_of hp
  unfold tk_K at h6 h7
  rw [if_neg (show ¬ ¬ p < n from fun z => z hp)] at h6 h7
  unfold tk_E
  by_cases a : ¬ lx_letter (T p) = 0
  · rw [if_pos a]
    have h1 : tk_e T n p = lx_nend T n (n - p) p := rfl
    obtain ⟨f, hf⟩ : ∃ f, n - p = f + 1 := ⟨n - p - 1, by omega⟩
    have h2 : lx_nend T n (n - p) p = lx_nend T n f (p + 1) := by
      rw [hf]
      exact lx_nend_s (fun z => a (by rw [← hat]; exact z.1))
    have h3 := lx_nend_ge (T := T) (n := n) f (p + 1)
    have h4 := lx_nend_le (T := T) (n := n) (n - p) p (by omega)
    refine ⟨by omega, by omega, fun j h5 h8 => ?_⟩
    have h9 := lx_nend_in (T := T) (n := n) (n - p) p j h5 h8
    rw [lx_at_of (show j < n by omega)] at h9
    have := lx_ld_1 h9
    omega
  · rw [if_neg a] at h6 h7 ⊢
    by_cases b : ¬ lx_digit (T p) = 0
    · rw [if_pos b]
      have h := lx_num_b hp b
      exact h.2.2
    · rw [if_neg b] at h6 h7 ⊢
      by_cases c : T p = 34 ∨ T p = 39
      · rw [if_pos c] at h7 ⊢
        have hg : (lx_str T n p).2.2 = 1 ∧ lx_at T n (lx_str T n p).2.1 = T p ∧ (lx_str T n p).1.length ≤ 200 := by
          by_cases z : (lx_str T n p).2.2 = 1 ∧ lx_at T n (lx_str T n p).2.1 = T p ∧ (lx_str T n p).1.length ≤ 200
          · exact z
          · rw [if_neg z] at h7
            exact absurd rfl h7
        have h := lx_qs_b (T := T) (n := n) (q := T p) n (p + 1)
        have h1 : (lx_str T n p).2.1 < n := lx_at_in (T := T) (by omega)
        have h2 : p + 1 ≤ (lx_str T n p).2.1 := h.1
        refine ⟨by omega, by omega, fun j h3 h4 => ?_⟩
        by_cases e : j = p
        · rw [e]; omega
        · by_cases e2 : j = (lx_str T n p).2.1
          · have := hg.2.1
            rw [lx_at_of h1] at this
            rw [e2]
            omega
          · exact h.2.2.1 j (by omega) (by show j < (lx_str T n p).2.1; omega)
      · rw [if_neg c] at h7 ⊢
        exact lx_sgn_b hp (fun z => h7 (if_pos z))
