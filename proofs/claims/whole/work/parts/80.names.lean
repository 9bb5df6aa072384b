/-! ===== 80: names: the end, the bytes, the word; the reference's readName (by wip/whole2/law80.py) ===== -/
theorem od_bS {α β : Type} {y : β} {k : β → Option α} : (some y).bind k = k y := rfl
/-- where a name ends -/
def lx_nend (T : Nat → Nat) (n : Nat) : Nat → Nat → Nat
  | 0, k => k
  | f + 1, k => if lx_letter (lx_at T n k) = 0 ∧ lx_digit (lx_at T n k) = 0 then k else lx_nend T n f (k + 1)
theorem lx_nend_e {T : Nat → Nat} {n f k : Nat} (h1 : lx_letter (lx_at T n k) = 0) (h2 : lx_digit (lx_at T n k) = 0) : lx_nend T n f k = k := by
  cases f with
  | zero => rfl
  | succ f => exact if_pos ⟨h1, h2⟩
theorem lx_nend_s {T : Nat → Nat} {n f k : Nat} (h : ¬ (lx_letter (lx_at T n k) = 0 ∧ lx_digit (lx_at T n k) = 0)) : lx_nend T n (f + 1) k = lx_nend T n f (k + 1) := if_neg h
theorem lx_nend_le {T : Nat → Nat} {n : Nat} : ∀ f k : Nat, k + f ≤ n → lx_nend T n f k ≤ n
  | 0, k, h => h
  | f + 1, k, h => by
    by_cases q : lx_letter (lx_at T n k) = 0 ∧ lx_digit (lx_at T n k) = 0
    · rw [lx_nend_e q.1 q.2]
      omega
    · rw [lx_nend_s q]
      exact lx_nend_le f (k + 1) (by omega)
theorem lx_nend_ge {T : Nat → Nat} {n : Nat} : ∀ f k : Nat, k ≤ lx_nend T n f k
  | 0, k => Nat.le_refl _
  | f + 1, k => by
    by_cases q : lx_letter (lx_at T n k) = 0 ∧ lx_digit (lx_at T n k) = 0
    · rw [lx_nend_e q.1 q.2]
      exact Nat.le_refl _
    · rw [lx_nend_s q]
      exact Nat.le_trans (Nat.le_succ _) (lx_nend_ge f (k + 1))
theorem lx_nend_in {T : Nat → Nat} {n : Nat} : ∀ f k j : Nat, k ≤ j → j < lx_nend T n f k → ¬ (lx_letter (lx_at T n j) = 0 ∧ lx_digit (lx_at T n j) = 0)
  | 0, k, j, h1, h2 => absurd (show j < k from h2) (by omega)
  | f + 1, k, j, h1, h2 => by
    by_cases q : lx_letter (lx_at T n k) = 0 ∧ lx_digit (lx_at T n k) = 0
    · rw [lx_nend_e q.1 q.2] at h2
      omega
    · rw [lx_nend_s q] at h2
      by_cases e : j = k
      · rw [e]; exact q
      · exact lx_nend_in f (k + 1) j (by omega) h2
theorem lx_ld_big {c : Nat} (h : 128 ≤ c) : lx_letter c = 0 ∧ lx_digit c = 0 := by
  unfold lx_letter lx_digit
  rw [if_neg (by omega), if_neg (by omega)]
  exact ⟨rfl, rfl⟩
theorem lx_ld_1 {c : Nat} (h : ¬ (lx_letter c = 0 ∧ lx_digit c = 0)) : 48 ≤ c ∧ c < 128 := by
  by_cases q : 128 ≤ c
  · exact absurd (lx_ld_big q) h
  · refine ⟨?_, by omega⟩
    by_cases z : c < 48
    · exfalso
      apply h
      unfold lx_letter lx_digit
      rw [if_neg (by omega), if_neg (by omega)]
      exact ⟨rfl, rfl⟩
    · omega
/-- bytes of the text -/
def lx_bytes (T : Nat → Nat) (a m : Nat) : List Nat := (List.range m).map (fun i => T (a + i))
theorem lx_bytes_len (T : Nat → Nat) (a m : Nat) : (lx_bytes T a m).length = m := by
  unfold lx_bytes
  rw [List.length_map, List.length_range]
theorem lx_bytes_s (T : Nat → Nat) (a m : Nat) : lx_bytes T a (m + 1) = lx_bytes T a m ++ [T (a + m)] := by
  unfold lx_bytes
  rw [List.range_succ, List.map_append]
  rfl
theorem lx_bytes_get {T : Nat → Nat} {a m i : Nat} (h : i < m) : (lx_bytes T a m).getD i 0 = T (a + i) := by
  rw [gd_lt (show i < (lx_bytes T a m).length by rw [lx_bytes_len]; exact h)]
  unfold lx_bytes
  rw [List.getElem_map, List.getElem_range]
theorem lx_bytes_mem {T : Nat → Nat} {a m c : Nat} (h : c ∈ lx_bytes T a m) : ∃ i, i < m ∧ c = T (a + i) := by
  unfold lx_bytes at h
  rw [List.mem_map] at h
  obtain ⟨i, h1, h2⟩ := h
  exact ⟨i, List.mem_range.mp h1, h2.symm⟩
theorem lx_bytes_ext {T T' : Nat → Nat} {a m : Nat} (h : ∀ i, i < m → T' (a + i) = T (a + i)) : lx_bytes T' a m = lx_bytes T a m := by
  unfold lx_bytes
  apply List.map_congr_left
  intro i hi
  exact h i (List.mem_range.mp hi)
theorem wd_cmpC {v c C : Nat} (h : C = 18446744073709551616 + c) : ev_oCmpL (18446744073709551616 + v - 18446744073709551616) (C - 18446744073709551616) = 0 ↔ v = c := by
  rw [h]
  exact wd_cmpK
theorem wd_cas {α : Type} {v c C : Nat} {A B : Option α} (h : C = 18446744073709551616 + c) : (od_let (ev_oCmpL (18446744073709551616 + v - 18446744073709551616) (C - 18446744073709551616)) fun y => if y = 0 then A else B) = if v = c then A else B := by
  rw [od_letS]
  by_cases q : v = c
  · rw [if_pos q, if_pos ((wd_cmpC h).mpr q)]
  · rw [if_neg q, if_neg (fun z => q ((wd_cmpC h).mp z))]
theorem wd_ifS {p : Prop} [Decidable p] {x y : Nat} {F : wq_F} : (if p then some (x, F) else some (y, F)) = some (if p then x else y, F) := by
  by_cases q : p
  · rw [if_pos q, if_pos q]
  · rw [if_neg q, if_neg q]
/-- the word by its packed bytes -/
def wd_pk2 (v : Nat) : Nat := if v = 465725251948 then 12 else if v = 7235948 then 13 else if v = 7237492 then 14 else if v = 28530 then 15 else if v = 125780002955636 then 16 else if v = 125780071117422 then 17 else if v = 1952998766 then 18 else if v = 1953658213 then 19 else if v = 504364296556 then 20 else if v = 512852847717 then 21 else 0
def wd_pk (v : Nat) : Nat := if v = 6385252 then 1 else if v = 422826041707 then 2 else if v = 25711 then 3 else if v = 1701606245 then 4 else if v = 111516466899302 then 5 else if v = 6647396 then 6 else if v = 439721161573 then 7 else if v = 6713202 then 8 else if v = 7382928537577680750 then 9 else if v = 26982 then 10 else if v = 26990 then 11 else wd_pk2 v
theorem wd_pk_word {b : List Nat} (hb : ∀ c ∈ b, 1 ≤ c ∧ c < 256) : wd_pk (pk b) = lx_word b := by
  by_cases h0 : pk b = 6385252
  · have e := (lx_word_pk hb (t := 0) (by decide)).mp (h0.trans (by decide))
    rw [lx_word_of (by decide) e]
    unfold wd_pk wd_pk2
    rw [if_pos h0]
  by_cases h1 : pk b = 422826041707
  · have e := (lx_word_pk hb (t := 1) (by decide)).mp (h1.trans (by decide))
    rw [lx_word_of (by decide) e]
    unfold wd_pk wd_pk2
    rw [if_neg h0, if_pos h1]
  by_cases h2 : pk b = 25711
  · have e := (lx_word_pk hb (t := 2) (by decide)).mp (h2.trans (by decide))
    rw [lx_word_of (by decide) e]
    unfold wd_pk wd_pk2
    rw [if_neg h0, if_neg h1, if_pos h2]
  by_cases h3 : pk b = 1701606245
  · have e := (lx_word_pk hb (t := 3) (by decide)).mp (h3.trans (by decide))
    rw [lx_word_of (by decide) e]
    unfold wd_pk wd_pk2
    rw [if_neg h0, if_neg h1, if_neg h2, if_pos h3]
  by_cases h4 : pk b = 111516466899302
  · have e := (lx_word_pk hb (t := 4) (by decide)).mp (h4.trans (by decide))
    rw [lx_word_of (by decide) e]
    unfold wd_pk wd_pk2
    rw [if_neg h0, if_neg h1, if_neg h2, if_neg h3, if_pos h4]
  by_cases h5 : pk b = 6647396
  · have e := (lx_word_pk hb (t := 5) (by decide)).mp (h5.trans (by decide))
    rw [lx_word_of (by decide) e]
    unfold wd_pk wd_pk2
    rw [if_neg h0, if_neg h1, if_neg h2, if_neg h3, if_neg h4, if_pos h5]
  by_cases h6 : pk b = 439721161573
  · have e := (lx_word_pk hb (t := 6) (by decide)).mp (h6.trans (by decide))
    rw [lx_word_of (by decide) e]
    unfold wd_pk wd_pk2
    rw [if_neg h0, if_neg h1, if_neg h2, if_neg h3, if_neg h4, if_neg h5, if_pos h6]
  by_cases h7 : pk b = 6713202
  · have e := (lx_word_pk hb (t := 7) (by decide)).mp (h7.trans (by decide))
    rw [lx_word_of (by decide) e]
    unfold wd_pk wd_pk2
    rw [if_neg h0, if_neg h1, if_neg h2, if_neg h3, if_neg h4, if_neg h5, if_neg h6, if_pos h7]
  by_cases h8 : pk b = 7382928537577680750
  · have e := (lx_word_pk hb (t := 8) (by decide)).mp (h8.trans (by decide))
    rw [lx_word_of (by decide) e]
    unfold wd_pk wd_pk2
    rw [if_neg h0, if_neg h1, if_neg h2, if_neg h3, if_neg h4, if_neg h5, if_neg h6, if_neg h7, if_pos h8]
  by_cases h9 : pk b = 26982
  · have e := (lx_word_pk hb (t := 9) (by decide)).mp (h9.trans (by decide))
    rw [lx_word_of (by decide) e]
    unfold wd_pk wd_pk2
    rw [if_neg h0, if_neg h1, if_neg h2, if_neg h3, if_neg h4, if_neg h5, if_neg h6, if_neg h7, if_neg h8, if_pos h9]
  by_cases h10 : pk b = 26990
  · have e := (lx_word_pk hb (t := 10) (by decide)).mp (h10.trans (by decide))
    rw [lx_word_of (by decide) e]
    unfold wd_pk wd_pk2
    rw [if_neg h0, if_neg h1, if_neg h2, if_neg h3, if_neg h4, if_neg h5, if_neg h6, if_neg h7, if_neg h8, if_neg h9, if_pos h10]
  by_cases h11 : pk b = 465725251948
  · have e := (lx_word_pk hb (t := 11) (by decide)).mp (h11.trans (by decide))
    rw [lx_word_of (by decide) e]
    unfold wd_pk wd_pk2
    rw [if_neg h0, if_neg h1, if_neg h2, if_neg h3, if_neg h4, if_neg h5, if_neg h6, if_neg h7, if_neg h8, if_neg h9, if_neg h10, if_pos h11]
  by_cases h12 : pk b = 7235948
  · have e := (lx_word_pk hb (t := 12) (by decide)).mp (h12.trans (by decide))
    rw [lx_word_of (by decide) e]
    unfold wd_pk wd_pk2
    rw [if_neg h0, if_neg h1, if_neg h2, if_neg h3, if_neg h4, if_neg h5, if_neg h6, if_neg h7, if_neg h8, if_neg h9, if_neg h10, if_neg h11, if_pos h12]
  by_cases h13 : pk b = 7237492
  · have e := (lx_word_pk hb (t := 13) (by decide)).mp (h13.trans (by decide))
    rw [lx_word_of (by decide) e]
    unfold wd_pk wd_pk2
    rw [if_neg h0, if_neg h1, if_neg h2, if_neg h3, if_neg h4, if_neg h5, if_neg h6, if_neg h7, if_neg h8, if_neg h9, if_neg h10, if_neg h11, if_neg h12, if_pos h13]
  by_cases h14 : pk b = 28530
  · have e := (lx_word_pk hb (t := 14) (by decide)).mp (h14.trans (by decide))
    rw [lx_word_of (by decide) e]
    unfold wd_pk wd_pk2
    rw [if_neg h0, if_neg h1, if_neg h2, if_neg h3, if_neg h4, if_neg h5, if_neg h6, if_neg h7, if_neg h8, if_neg h9, if_neg h10, if_neg h11, if_neg h12, if_neg h13, if_pos h14]
  by_cases h15 : pk b = 125780002955636
  · have e := (lx_word_pk hb (t := 15) (by decide)).mp (h15.trans (by decide))
    rw [lx_word_of (by decide) e]
    unfold wd_pk wd_pk2
    rw [if_neg h0, if_neg h1, if_neg h2, if_neg h3, if_neg h4, if_neg h5, if_neg h6, if_neg h7, if_neg h8, if_neg h9, if_neg h10, if_neg h11, if_neg h12, if_neg h13, if_neg h14, if_pos h15]
  by_cases h16 : pk b = 125780071117422
  · have e := (lx_word_pk hb (t := 16) (by decide)).mp (h16.trans (by decide))
    rw [lx_word_of (by decide) e]
    unfold wd_pk wd_pk2
    rw [if_neg h0, if_neg h1, if_neg h2, if_neg h3, if_neg h4, if_neg h5, if_neg h6, if_neg h7, if_neg h8, if_neg h9, if_neg h10, if_neg h11, if_neg h12, if_neg h13, if_neg h14, if_neg h15, if_pos h16]
  by_cases h17 : pk b = 1952998766
  · have e := (lx_word_pk hb (t := 17) (by decide)).mp (h17.trans (by decide))
    rw [lx_word_of (by decide) e]
    unfold wd_pk wd_pk2
    rw [if_neg h0, if_neg h1, if_neg h2, if_neg h3, if_neg h4, if_neg h5, if_neg h6, if_neg h7, if_neg h8, if_neg h9, if_neg h10, if_neg h11, if_neg h12, if_neg h13, if_neg h14, if_neg h15, if_neg h16, if_pos h17]
  by_cases h18 : pk b = 1953658213
  · have e := (lx_word_pk hb (t := 18) (by decide)).mp (h18.trans (by decide))
    rw [lx_word_of (by decide) e]
    unfold wd_pk wd_pk2
    rw [if_neg h0, if_neg h1, if_neg h2, if_neg h3, if_neg h4, if_neg h5, if_neg h6, if_neg h7, if_neg h8, if_neg h9, if_neg h10, if_neg h11, if_neg h12, if_neg h13, if_neg h14, if_neg h15, if_neg h16, if_neg h17, if_pos h18]
  by_cases h19 : pk b = 504364296556
  · have e := (lx_word_pk hb (t := 19) (by decide)).mp (h19.trans (by decide))
    rw [lx_word_of (by decide) e]
    unfold wd_pk wd_pk2
    rw [if_neg h0, if_neg h1, if_neg h2, if_neg h3, if_neg h4, if_neg h5, if_neg h6, if_neg h7, if_neg h8, if_neg h9, if_neg h10, if_neg h11, if_neg h12, if_neg h13, if_neg h14, if_neg h15, if_neg h16, if_neg h17, if_neg h18, if_pos h19]
  by_cases h20 : pk b = 512852847717
  · have e := (lx_word_pk hb (t := 20) (by decide)).mp (h20.trans (by decide))
    rw [lx_word_of (by decide) e]
    unfold wd_pk wd_pk2
    rw [if_neg h0, if_neg h1, if_neg h2, if_neg h3, if_neg h4, if_neg h5, if_neg h6, if_neg h7, if_neg h8, if_neg h9, if_neg h10, if_neg h11, if_neg h12, if_neg h13, if_neg h14, if_neg h15, if_neg h16, if_neg h17, if_neg h18, if_neg h19, if_pos h20]
  unfold wd_pk wd_pk2
  rw [if_neg h0, if_neg h1, if_neg h2, if_neg h3, if_neg h4, if_neg h5, if_neg h6, if_neg h7, if_neg h8, if_neg h9, if_neg h10, if_neg h11, if_neg h12, if_neg h13, if_neg h14, if_neg h15, if_neg h16, if_neg h17, if_neg h18, if_neg h19, if_neg h20]
  refine (lx_word_no ?_).symm
  intro t ht e
  have q := (lx_word_pk hb ht).mpr e
  rcases (show t = 0 ∨ t = 1 ∨ t = 2 ∨ t = 3 ∨ t = 4 ∨ t = 5 ∨ t = 6 ∨ t = 7 ∨ t = 8 ∨ t = 9 ∨ t = 10 ∨ t = 11 ∨ t = 12 ∨ t = 13 ∨ t = 14 ∨ t = 15 ∨ t = 16 ∨ t = 17 ∨ t = 18 ∨ t = 19 ∨ t = 20 by omega) with e2 | e2 | e2 | e2 | e2 | e2 | e2 | e2 | e2 | e2 | e2 | e2 | e2 | e2 | e2 | e2 | e2 | e2 | e2 | e2 | e2
  · subst e2; exact h0 (q.trans (by decide))
  · subst e2; exact h1 (q.trans (by decide))
  · subst e2; exact h2 (q.trans (by decide))
  · subst e2; exact h3 (q.trans (by decide))
  · subst e2; exact h4 (q.trans (by decide))
  · subst e2; exact h5 (q.trans (by decide))
  · subst e2; exact h6 (q.trans (by decide))
  · subst e2; exact h7 (q.trans (by decide))
  · subst e2; exact h8 (q.trans (by decide))
  · subst e2; exact h9 (q.trans (by decide))
  · subst e2; exact h10 (q.trans (by decide))
  · subst e2; exact h11 (q.trans (by decide))
  · subst e2; exact h12 (q.trans (by decide))
  · subst e2; exact h13 (q.trans (by decide))
  · subst e2; exact h14 (q.trans (by decide))
  · subst e2; exact h15 (q.trans (by decide))
  · subst e2; exact h16 (q.trans (by decide))
  · subst e2; exact h17 (q.trans (by decide))
  · subst e2; exact h18 (q.trans (by decide))
  · subst e2; exact h19 (q.trans (by decide))
  · subst e2; exact h20 (q.trans (by decide))
theorem dkL_201 {F : wq_F} {v : Nat} : dk_201 F (18446744073709551616 + v) = some (wd_pk2 v, F) := by
  unfold dk_201
  rw [wd_cas (c := 465725251948) (by decide), wd_cas (c := 7235948) (by decide), wd_cas (c := 7237492) (by decide), wd_cas (c := 28530) (by decide), wd_cas (c := 125780002955636) (by decide), wd_cas (c := 125780071117422) (by decide), wd_cas (c := 1952998766) (by decide), wd_cas (c := 1953658213) (by decide), wd_cas (c := 504364296556) (by decide), wd_cas (c := 512852847717) (by decide)]
  simp only [wd_ifS]
  rfl
theorem dkL_200c {n : Nat} {F : wq_F} {v : Nat} : dk_200_39 n F (18446744073709551616 + v) = some (wd_pk v, F) := by
  unfold dk_200_39
  rw [wd_cas (c := 6385252) (by decide), wd_cas (c := 422826041707) (by decide), wd_cas (c := 25711) (by decide), wd_cas (c := 1701606245) (by decide), wd_cas (c := 111516466899302) (by decide), wd_cas (c := 6647396) (by decide), wd_cas (c := 439721161573) (by decide), wd_cas (c := 6713202) (by decide), wd_cas (c := 7382928537577680750) (by decide), wd_cas (c := 26982) (by decide), wd_cas (c := 26990) (by decide), dkL_201, od_bS]
  simp only [wd_ifS]
  rfl
theorem dkS_28 {F : wq_F} {j : Nat} (h1 : j < 2147483648) (h2 : F 0 2 ≤ 6000) : dk_28 F j = some (lx_at (F 1) (F 0 2) j, F) := od_g1 ⟨h1, h2⟩
theorem lx_pk_lt {b : List Nat} (h : ∀ c ∈ b, c < 256) (hl : b.length ≤ 7) : pk b < 72057594037927936 := by
  have h1 := pkb_lt h
  have h2 : 256 ^ b.length ≤ 256 ^ 7 := Nat.pow_le_pow_right (by decide) hl
  have h3 : (256 : Nat) ^ 7 = 72057594037927936 := by decide
  omega
theorem dkL_200 {nn : Nat} {F : wq_F} {a m : Nat} (h256 : ∀ i, i < m → F 1 (a + i) < 256) (ha : a + m ≤ 6000) (hm : m ≤ 8) : ∀ g k : Nat, k ≤ m → m - k < g → dk_200_5 nn g F a m (18446744073709551616 + pk (lx_bytes (F 1) a k)) k = dk_200_39 nn F (18446744073709551616 + pk (lx_bytes (F 1) a m))
  | 0, k, h1, h2 => absurd h2 (by omega)
  | g + 1, k, h1, h2 => by
    show dk_200_5b nn (dk_200_5 nn g) F a m _ k = _
    unfold dk_200_5b
    by_cases q : k < m
    · have hb : ∀ c ∈ lx_bytes (F 1) a k, c < 256 := fun c hc => by
        obtain ⟨i, hi, e⟩ := lx_bytes_mem hc
        rw [e]
        exact h256 i (by omega)
      rw [if_pos ((wd_slt (by omega) (by omega)).mpr q), if_neg (fun z => absurd ((wd_slt (by omega) (by omega)).mp z) (by omega)), Nat.mod_eq_of_lt (show a + k < 4294967296 by omega), od_g1 (by omega), od_letS, od_letS, Nat.mod_eq_of_lt (show k + 1 < 4294967296 by omega), wd_shl8 (lx_pk_lt hb (by rw [lx_bytes_len]; omega)) (h256 k q), ← pk_snoc, ← lx_bytes_s]
      exact dkL_200 h256 ha hm g (k + 1) (by omega) (by omega)
    · rw [if_neg (fun z => q ((wd_slt (by omega) (by omega)).mp z))]
      have e : k = m := by omega
      rw [e]
/-- a name's word on the reference's side -/
theorem dkS_200 {nn : Nat} {F : wq_F} {a m : Nat} (h256 : ∀ i, i < m → 1 ≤ F 1 (a + i) ∧ F 1 (a + i) < 256) (ha : a + m ≤ 6000) (hn : m < nn) : dk_200 nn F a m = some (lx_word (lx_bytes (F 1) a m), F) := by
  have hb : ∀ c ∈ lx_bytes (F 1) a m, 1 ≤ c ∧ c < 256 := fun c hc => by
    obtain ⟨i, hi, e⟩ := lx_bytes_mem hc
    rw [e]
    exact h256 i hi
  unfold dk_200
  by_cases q : m ≤ 8
  · have h := dkL_200 (nn := nn) (fun i hi => (h256 i hi).2) ha q nn 0 (by omega) (by omega)
    have e0 : (18446744073709551616 + pk (lx_bytes (F 1) a 0)) = 18446744073709551616 := rfl
    rw [e0] at h
    rw [h, dkL_200c, wd_pk_word hb]
  · obtain ⟨g, rfl⟩ : ∃ g, nn = g + 1 := ⟨nn - 1, by omega⟩
    show dk_200_5b (g + 1) (dk_200_5 (g + 1) g) F a m 18446744073709551616 0 = _
    unfold dk_200_5b
    rw [if_pos ((wd_slt (by omega) (by omega)).mpr (by omega)), if_pos ((wd_slt (by omega) (by omega)).mpr (by omega)), lx_word_long (by rw [lx_bytes_len]; omega)]
    exact dkL_200c (v := 0)
/-- the buffer written -/
def bfw (F : wq_F) (b : List Nat) : wq_F := fun c i => if c = 8 ∧ i < b.length then b.getD i 0 else if c = 0 ∧ i = 20 then b.length else F c i
theorem bfw_0 (F : wq_F) : wq_up F 0 20 0 = bfw F [] := by
  funext c i
  unfold bfw wq_up
  rw [if_neg (show ¬ (c = 8 ∧ i < ([] : List Nat).length) from fun z => Nat.not_lt_zero _ z.2)]
  rfl
theorem bfw_s (F : wq_F) (b : List Nat) (v : Nat) : wq_up (wq_up (bfw F b) 8 b.length v) 0 20 (b.length + 1) = bfw F (b ++ [v]) := by
  have hlen : (b ++ [v]).length = b.length + 1 := by rw [List.length_append]; rfl
  funext c i
  unfold bfw
  rw [hlen]
  by_cases e : c = 0 ∧ i = 20
  · obtain ⟨rfl, rfl⟩ := e
    rw [wq_up_same, if_neg (by omega), if_pos ⟨rfl, rfl⟩]
  · rw [wq_up_ne e]
    by_cases e2 : c = 8 ∧ i = b.length
    · obtain ⟨rfl, rfl⟩ := e2
      rw [wq_up_same, if_pos ⟨rfl, by omega⟩, gd_last]
    · rw [wq_up_ne e2]
      by_cases e3 : c = 8 ∧ i < b.length
      · rw [if_pos e3, if_pos ⟨e3.1, by omega⟩, gd_app e3.2]
      · rw [if_neg e3, if_neg e, if_neg (by omega), if_neg e]
theorem bfw_c {F : wq_F} {b : List Nat} {c i : Nat} (h8 : c ≠ 8) (h0 : c = 0 → i ≠ 20) : bfw F b c i = F c i := by
  unfold bfw
  rw [if_neg (fun z => h8 z.1), if_neg (fun z => h0 z.1 z.2)]
theorem bfw_len (F : wq_F) (b : List Nat) : bfw F b 0 20 = b.length := by
  unfold bfw
  rw [if_neg (by omega), if_pos ⟨rfl, rfl⟩]
theorem bfw_is (F : wq_F) (b : List Nat) : bf_is (bfw F b 8) b := by
  intro k hk
  unfold bfw
  rw [if_pos ⟨rfl, hk⟩]
theorem rs_ok_up {F : wq_F} {ls : List (List Nat)} (h : rs_ok F ls) {G : wq_F} (h0 : G 0 14 = F 0 14 ∧ G 0 8 = F 0 8) (hc : ∀ c, c = 2 ∨ c = 3 ∨ c = 4 ∨ c = 6 ∨ c = 7 → G c = F c) : rs_ok G ls := by
  obtain ⟨r1, r2, r3⟩ := h
  refine ⟨by rw [h0.1]; exact r1, by rw [h0.2]; exact r2, ?_⟩
  rw [hc 2 (by decide), hc 3 (by decide), hc 4 (by decide), hc 6 (by decide), hc 7 (by decide)]
  exact r3
theorem rs_ok_bfw {F : wq_F} {ls : List (List Nat)} (h : rs_ok F ls) (b : List Nat) : rs_ok (bfw F b) ls := rs_ok_up h ⟨bfw_c (by decide) (by decide), bfw_c (by decide) (by decide)⟩ (fun c hc => by
  funext i
  exact bfw_c (by omega) (by omega))
theorem rs_ok_f {F : wq_F} {ls : List (List Nat)} (h : rs_ok F ls) {f v : Nat} (h1 : f ≠ 14) (h2 : f ≠ 8) : rs_ok (wq_up F 0 f v) ls := rs_ok_up h ⟨wq_up_at (fun e => h1 e.symm), wq_up_at (fun e => h2 e.symm)⟩ (fun c hc => by
  funext i
  exact wq_up_cell (by omega))
/-- the copying of a name into the buffer, and its number -/
theorem dkL_202_94 {nn : Nat} {F : wq_F} {a e : Nat} (hae : a ≤ e) (he : e ≤ 6000) (hb : ∀ i, i < e - a → ev_b8 (F 1 (a + i)) = F 1 (a + i)) (hl : e - a ≤ 4200) : ∀ g k : Nat, k ≤ e - a → e - a - k < g → dk_202_94 nn g (bfw F (lx_bytes (F 1) a k)) e (a + k) = (dk_22 nn (bfw F (lx_bytes (F 1) a (e - a))) 1).bind (fun y => some (0, wq_up y.2 0 68 (ev_oI2l y.1)))
  | 0, k, h1, h2 => absurd h2 (by omega)
  | g + 1, k, h1, h2 => by
    show dk_202_94b nn (dk_202_94 nn g) _ e (a + k) = _
    unfold dk_202_94b
    by_cases q : k < e - a
    · have hlen : (lx_bytes (F 1) a k).length = k := lx_bytes_len _ _ _
      rw [if_pos ((wd_slt (by omega) (by omega)).mpr (by omega)), od_g1 (by omega), bfw_len, hlen, od_g1 (by omega), od_upS, od_letS, od_upS, od_letS, bfw_c (c := 1) (by decide) (by omega), hb k q, hb k q, wq_up_cell (by decide), bfw_len, hlen, Nat.mod_eq_of_lt (show k + 1 < 4294967296 by omega), Nat.mod_eq_of_lt (show a + k + 1 < 4294967296 by omega)]
      have hs := bfw_s F (lx_bytes (F 1) a k) (F 1 (a + k))
      rw [hlen] at hs
      rw [hs, ← lx_bytes_s, Nat.add_assoc]
      exact dkL_202_94 hae he hb hl g (k + 1) (by omega) (by omega)
    · rw [if_neg (fun z => q (by have := (wd_slt (by omega) (by omega)).mp z; omega))]
      have e : k = e - a := by omega
      rw [← e]
      rfl
/-- what the reference reads at a letter -/
def nm_res (F : wq_F) (ls : List (List Nat)) (a e : Nat) : wq_F :=
  if 0 < lx_word (lx_bytes (F 1) a (e - a)) then wq_up (wq_up (wq_up F 0 69 e) 0 67 4) 0 68 (ev_oI2l (lx_word (lx_bytes (F 1) a (e - a))))
  else if 30 < e - a then wq_up (wq_up F 0 69 e) 0 67 7
  else wq_up (rs_res (bfw (wq_up (wq_up F 0 69 e) 0 67 1) (lx_bytes (F 1) a (e - a))) 1 (rh (lx_bytes (F 1) a (e - a))) (st_ix ls (lx_bytes (F 1) a (e - a)))).2 0 68 (ev_oI2l (rs_res (bfw (wq_up (wq_up F 0 69 e) 0 67 1) (lx_bytes (F 1) a (e - a))) 1 (rh (lx_bytes (F 1) a (e - a))) (st_ix ls (lx_bytes (F 1) a (e - a)))).1)
theorem lx_word_lt (b : List Nat) : lx_word b < 22 := by
  unfold lx_word
  cases ho : lx_lst (fun t => decide (lx_words.getD t [] = b)) 21 with
  | none => exact (by decide : 0 < 22)
  | some t =>
    have := (lx_lst_some ho).1
    show t + 1 < 22
    omega
theorem dkL_202_75 {nn : Nat} {F : wq_F} {ls : List (List Nat)} {a e s0 : Nat} (hae : a ≤ e) (he : e ≤ 6000) (hb : ∀ i, i < e - a → ev_b8 (F 1 (a + i)) = F 1 (a + i)) (hR : rs_ok F ls) (hn : 4200 < nn) (hn2 : ls.length < nn) (hm : ls.length < 3000) (hp : st_off ls ls.length + (e - a) ≤ 40000) (hs : s0 = if 30 < e - a then 7 else 1) : dk_202_75 nn F a e s0 = some (0, if 30 < e - a then wq_up F 0 67 7 else wq_up (rs_res (bfw (wq_up F 0 67 1) (lx_bytes (F 1) a (e - a))) 1 (rh (lx_bytes (F 1) a (e - a))) (st_ix ls (lx_bytes (F 1) a (e - a)))).2 0 68 (ev_oI2l (rs_res (bfw (wq_up F 0 67 1) (lx_bytes (F 1) a (e - a))) 1 (rh (lx_bytes (F 1) a (e - a))) (st_ix ls (lx_bytes (F 1) a (e - a)))).1)) := by
  subst hs
  unfold dk_202_75
  rw [od_upS, wq_up_same]
  by_cases q : 30 < e - a
  · rw [if_pos q, if_pos q, if_neg (by decide)]
  · rw [if_neg q, if_neg q, if_pos rfl, od_upS, bfw_0]
    have e1 : ∀ i, wq_up F 0 67 1 1 i = F 1 i := fun i => wq_up_cell (by decide)
    have e1' : wq_up F 0 67 1 1 = F 1 := funext e1
    have h0 : lx_bytes (wq_up F 0 67 1 1) a 0 = [] := rfl
    have h := dkL_202_94 (nn := nn) (F := wq_up F 0 67 1) hae he (by rw [e1']; exact hb) (by omega) nn 0 (by omega) (by omega)
    rw [h0, Nat.add_zero, e1'] at h
    rw [h, dkS_22 (b := lx_bytes (F 1) a (e - a)) (rs_ok_bfw (rs_ok_f hR (by decide) (by decide)) _) (bfw_is _ _) (bfw_len _ _) (by rw [lx_bytes_len]; omega) (by rw [lx_bytes_len]; omega) hn2 hm (by rw [lx_bytes_len]; omega), od_bS]
theorem dkS_202 {nn : Nat} {F : wq_F} {ls : List (List Nat)} {a n : Nat} (hn6 : n ≤ 6000) (hF : F 0 2 = n) (ha : a ≤ n) (hC : ∀ i, i < n → F 1 i < 256) (hR : rs_ok F ls) (hn : 6001 < nn) (hn2 : ls.length < nn) (hm : ls.length < 3000) (hp : st_off ls ls.length + 30 ≤ 40000) : ∀ g k : Nat, a ≤ k → k ≤ n → n - k < g → (∀ j, a ≤ j → j < k → ¬ (lx_letter (lx_at (F 1) n j) = 0 ∧ lx_digit (lx_at (F 1) n j) = 0)) → dk_202_2 nn g F a k = some (0, nm_res F ls a (lx_nend (F 1) n (n - k) k))
  | 0, k, _, _, h2, _ => absurd h2 (by omega)
  | g + 1, k, h0, h1, h2, hj => by
    have hlt : lx_at (F 1) n k < 4294967296 := lx_at_lt hC k
    show dk_202_2b nn (dk_202_2 nn g) F a k = _
    unfold dk_202_2b
    rw [dkS_28 (by omega) (by omega), od_bS, hF]
    show (some (lx_letter (lx_at (F 1) n k), F)).bind _ = _
    rw [od_bS]
    dsimp only
    have step : ¬ (lx_letter (lx_at (F 1) n k) = 0 ∧ lx_digit (lx_at (F 1) n k) = 0) → dk_202_2 nn g F a ((k + 1) % 4294967296) = some (0, nm_res F ls a (lx_nend (F 1) n (n - k) k)) := fun q => by
      have hkn : k < n := by
        by_cases z : k < n
        · exact z
        · exfalso
          apply q
          unfold lx_at
          rw [if_neg z]
          exact ⟨rfl, rfl⟩
      rw [Nat.mod_eq_of_lt (show k + 1 < 4294967296 by omega)]
      obtain ⟨f, hf⟩ : ∃ f, n - k = f + 1 := ⟨n - k - 1, by omega⟩
      rw [hf, lx_nend_s q, show f = n - (k + 1) by omega]
      exact dkS_202 hn6 hF ha hC hR hn hn2 hm hp g (k + 1) (by omega) (by omega) (by omega) (fun j hj1 hj2 => by
        by_cases e : j = k
        · rw [e]; exact q
        · exact hj j hj1 (by omega))
    by_cases q : lx_letter (lx_at (F 1) n k) = 0
    · rw [if_pos q, dkS_28 (by omega) (by omega), od_bS, hF]
      show (some (lx_digit (lx_at (F 1) n k), F)).bind _ = _
      rw [od_bS]
      dsimp only
      by_cases q2 : lx_digit (lx_at (F 1) n k) = 0
      · rw [if_pos q2, lx_nend_e q q2, od_upS, od_letS]
        have hin : ∀ i, i < k - a → 48 ≤ F 1 (a + i) ∧ F 1 (a + i) < 128 := fun i hi => by
          have h := hj (a + i) (by omega) (by omega)
          rw [lx_at_of (show a + i < n by omega)] at h
          exact lx_ld_1 h
        have eG : ∀ i, wq_up F 0 69 k 1 i = F 1 i := fun i => wq_up_cell (by decide)
        have eG' : wq_up F 0 69 k 1 = F 1 := funext eG
        rw [show (k + (4294967296 - a)) % 4294967296 = k - a by omega, dkS_200 (F := wq_up F 0 69 k) (fun i hi => by rw [eG]; have := hin i hi; omega) (by omega) (by omega), od_bS, eG']
        have hw := lx_word_lt (lx_bytes (F 1) a (k - a))
        unfold nm_res
        by_cases w : 0 < lx_word (lx_bytes (F 1) a (k - a))
        · rw [if_pos ⟨w, by omega⟩, if_pos w, od_upS, od_upS]
        · rw [if_neg (fun z => w z.1), if_neg w, od_letS]
          have hb8 : ∀ i, i < k - a → ev_b8 (wq_up F 0 69 k 1 (a + i)) = wq_up F 0 69 k 1 (a + i) := fun i hi => by
            rw [eG]
            have := hin i hi
            unfold ev_b8
            rw [Nat.mod_eq_of_lt (show F 1 (a + i) < 256 by omega), Nat.blt_eq.mpr this.2, cond_true]
          by_cases l : 30 < k - a
          · rw [if_pos ((wd_slt (by omega) (by omega)).mpr l), if_pos l]
            unfold dk_202_75
            rw [od_upS, wq_up_same, if_neg (by decide)]
          · rw [if_neg (fun z => l ((wd_slt (by omega) (by omega)).mp z)), if_neg l]
            have h := dkL_202_75 (nn := nn) (F := wq_up F 0 69 k) (ls := ls) (a := a) (e := k) (s0 := 1) h0 (by omega) hb8 (rs_ok_f hR (by decide) (by decide)) (by omega) hn2 hm (by omega) (by rw [if_neg l])
            rw [eG', if_neg l] at h
            exact h
      · rw [if_neg q2, od_letS]
        exact step (fun z => q2 z.2)
    · rw [if_neg q, od_letS]
      exact step (fun z => q z.1)

