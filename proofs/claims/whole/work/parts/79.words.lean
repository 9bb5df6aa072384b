/-! ===== 79: the words of the language, packed and by bytes (wip/whole2/79.txt) ===== -/
/-- the words' bytes, in their order -/
def lx_words : List (List Nat) := [[97, 110, 100], [98, 114, 101, 97, 107], [100, 111], [101, 108, 115, 101], [101, 108, 115, 101, 105, 102], [101, 110, 100], [102, 97, 108, 115, 101], [102, 111, 114], [102, 117, 110, 99, 116, 105, 111, 110], [105, 102], [105, 110], [108, 111, 99, 97, 108], [110, 105, 108], [110, 111, 116], [111, 114], [114, 101, 112, 101, 97, 116], [114, 101, 116, 117, 114, 110], [116, 104, 101, 110], [116, 114, 117, 101], [117, 110, 116, 105, 108], [119, 104, 105, 108, 101]]
/-- which word a row of bytes is, from 1; 0: none -/
def lx_word (b : List Nat) : Nat := match lx_lst (fun t => decide (lx_words.getD t [] = b)) 21 with
  | some t => t + 1
  | none => 0
def pr : List Nat → Nat
  | [] => 0
  | c :: l => c + 256 * pr l
def pk (b : List Nat) : Nat := pr b.reverse
theorem pr_inj : ∀ {a b : List Nat}, (∀ c ∈ a, 1 ≤ c ∧ c < 256) → (∀ c ∈ b, 1 ≤ c ∧ c < 256) → pr a = pr b → a = b
  | [], [], _, _, _ => rfl
  | [], c :: l, _, hb, h => by
    have := hb c List.mem_cons_self
    have h : 0 = c + 256 * pr l := h
    omega
  | c :: l, [], ha, _, h => by
    have := ha c List.mem_cons_self
    have h : c + 256 * pr l = 0 := h
    omega
  | c :: l, c' :: l', ha, hb, h => by
    have h1 := ha c List.mem_cons_self
    have h2 := hb c' List.mem_cons_self
    have h : c + 256 * pr l = c' + 256 * pr l' := h
    have e : c = c' := by omega
    have e2 : pr l = pr l' := by omega
    rw [e, pr_inj (fun x hx => ha x (List.mem_cons_of_mem _ hx)) (fun x hx => hb x (List.mem_cons_of_mem _ hx)) e2]
theorem pk_inj {a b : List Nat} (ha : ∀ c ∈ a, 1 ≤ c ∧ c < 256) (hb : ∀ c ∈ b, 1 ≤ c ∧ c < 256) (h : pk a = pk b) : a = b := by
  have := pr_inj (a := a.reverse) (b := b.reverse) (fun c hc => ha c (List.mem_reverse.mp hc)) (fun c hc => hb c (List.mem_reverse.mp hc)) h
  exact List.reverse_inj.mp this
theorem pk_snoc (b : List Nat) (c : Nat) : pk (b ++ [c]) = pk b * 256 + c := by
  unfold pk
  rw [List.reverse_append]
  show c + 256 * pr b.reverse = _
  omega
theorem pr_lt : ∀ {b : List Nat}, (∀ c ∈ b, c < 256) → pr b < 256 ^ b.length
  | [], _ => by decide
  | c :: l, h => by
    have h1 := h c List.mem_cons_self
    have h2 := pr_lt (fun x hx => h x (List.mem_cons_of_mem _ hx))
    show c + 256 * pr l < 256 ^ (l.length + 1)
    rw [Nat.pow_succ]
    omega
theorem pkb_lt {b : List Nat} (h : ∀ c ∈ b, c < 256) : pk b < 256 ^ b.length := by
  have := pr_lt (b := b.reverse) (fun c hc => h c (List.mem_reverse.mp hc))
  rw [List.length_reverse] at this
  exact this
theorem lx_words_ok : ∀ t, t < 21 → ∀ c ∈ lx_words.getD t [], 1 ≤ c ∧ c < 256 := by decide
theorem lx_words_len : ∀ t, t < 21 → (lx_words.getD t []).length ≤ 8 ∧ 2 ≤ (lx_words.getD t []).length := by decide
theorem lx_words_nd : ∀ t, t < 21 → ∀ s, s < 21 → lx_words.getD s [] = lx_words.getD t [] → s = t := by decide
/-- a word of the language is told by its packed bytes -/
theorem lx_word_pk {b : List Nat} (hb : ∀ c ∈ b, 1 ≤ c ∧ c < 256) {t : Nat} (ht : t < 21) : (pk b = pk (lx_words.getD t [])) ↔ lx_words.getD t [] = b := ⟨fun h => (pk_inj hb (lx_words_ok t ht) h).symm, fun h => by rw [h]⟩
theorem lx_word_of {b : List Nat} {t : Nat} (ht : t < 21) (h : lx_words.getD t [] = b) : lx_word b = t + 1 := by
  unfold lx_word
  cases ho : lx_lst (fun t => decide (lx_words.getD t [] = b)) 21 with
  | none =>
    have := lx_lst_none ho t ht
    rw [decide_eq_true h] at this
    cases this
  | some s =>
    have := lx_lst_some ho
    have e := lx_words_nd t ht s this.1 ((of_decide_eq_true this.2).trans h.symm)
    rw [e]
theorem lx_word_no {b : List Nat} (h : ∀ t, t < 21 → ¬ lx_words.getD t [] = b) : lx_word b = 0 := by
  unfold lx_word
  rw [lx_lst_no (fun t ht => decide_eq_false (h t ht))]
theorem lx_word_long {b : List Nat} (h : 8 < b.length) : lx_word b = 0 := lx_word_no (fun t ht e => by
  have := lx_words_len t ht
  rw [e] at this
  omega)
theorem wd_cmp0 {x y : Nat} : ev_oCmpL x y = 0 ↔ x = y := by
  unfold ev_oCmpL
  constructor
  · intro h
    cases h1 : (ev_sl y).blt (ev_sl x)
    · rw [h1, cond_false] at h
      cases h2 : x.beq y
      · rw [h2, cond_false] at h
        cases h
      · exact Nat.eq_of_beq_eq_true h2
    · rw [h1, cond_true] at h
      cases h
  · intro h
    subst h
    rw [wd_bF (Nat.lt_irrefl _), cond_false, Nat.beq_refl, cond_true]
theorem wd_cmpK {v c : Nat} : ev_oCmpL (18446744073709551616 + v - 18446744073709551616) (18446744073709551616 + c - 18446744073709551616) = 0 ↔ v = c := by
  rw [wd_cmp0, Nat.add_sub_cancel_left, Nat.add_sub_cancel_left]
theorem wd_lN {v : Nat} (h : v < 18446744073709551616) : (lN v).toBitVec.toNat = v := by
  show v % 2 ^ 64 = v
  exact Nat.mod_eq_of_lt h
/-- a byte put behind -/
theorem wd_shl8 {v c : Nat} (hv : v < 72057594037927936) (hc : c < 256) : ev_oOrL (ev_oShlL (18446744073709551616 + v) 8) (ev_oI2l c) = 18446744073709551616 + (v * 256 + c) := by
  have h1 : ev_oShlL (18446744073709551616 + v) 8 = 18446744073709551616 + v * 256 := by
    unfold ev_oShlL
    rw [Nat.add_sub_cancel_left]
    show 18446744073709551616 + (((lN v).toBitVec <<< (((nI 8).toInt64 &&& 63).toBitVec.smod 64)) : BitVec 64).toNat = _
    rw [show (((nI 8).toInt64 &&& 63).toBitVec.smod 64) = 8#64 from by decide, BitVec.shiftLeft_eq', BitVec.toNat_shiftLeft]
    show 18446744073709551616 + ((lN v).toBitVec.toNat <<< 8) % 2 ^ 64 = _
    rw [wd_lN (by omega), Nat.shiftLeft_eq]
    omega
  have h2 : ev_oI2l c = 18446744073709551616 + c := by
    unfold ev_oI2l
    rw [show c.blt 2147483648 = true from Nat.blt_eq.mpr (by omega), cond_true]
  rw [h1, h2]
  unfold ev_oOrL
  rw [Nat.add_sub_cancel_left, Nat.add_sub_cancel_left]
  show 18446744073709551616 + ((lN (v * 256)).toBitVec ||| (lN c).toBitVec).toNat = _
  rw [BitVec.toNat_or, wd_lN (by omega), wd_lN (by omega)]
  have h3 := Nat.shiftLeft_add_eq_or_of_lt (show c < 2 ^ 8 by omega) v
  rw [Nat.shiftLeft_eq] at h3
  rw [← h3]
