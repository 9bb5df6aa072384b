section
/-! ===== 01: numbers of the evaluator: an int is a Nat below 2^32, a long a Nat below 2^64; what each instruction does to them ===== -/
theorem ev_iext {x y : Int32} (h : x.toBitVec.toNat = y.toBitVec.toNat) : x = y := by
  apply Int32.toBitVec_inj.mp
  exact BitVec.eq_of_toNat_eq h
theorem ev_lext {x y : Int64} (h : x.toBitVec.toNat = y.toBitVec.toNat) : x = y := by
  apply Int64.toBitVec_inj.mp
  exact BitVec.eq_of_toNat_eq h
theorem ev_nIn (n : Nat) : (nI n).toBitVec.toNat = n % 4294967296 := by
  show (BitVec.ofNat 32 n).toNat = _
  simp
theorem ev_lNn (n : Nat) : (lN n).toBitVec.toNat = n % 18446744073709551616 := by
  show (BitVec.ofNat 64 n).toNat = _
  simp
theorem ev_nImod (n : Nat) : nI (n % 4294967296) = nI n := ev_iext (by rw [ev_nIn, ev_nIn, Nat.mod_mod])
theorem ev_lNmod (n : Nat) : lN (n % 18446744073709551616) = lN n := ev_lext (by rw [ev_lNn, ev_lNn, Nat.mod_mod])
theorem ev_nIof (v : Int32) : nI v.toBitVec.toNat = v := ev_iext (by rw [ev_nIn]; exact Nat.mod_eq_of_lt v.toBitVec.isLt)
theorem ev_addI (x y : Nat) : nI x + nI y = nI ((x + y) % 4294967296) := by rw [ev_nImod, nI_add]
theorem ev_mulI (x y : Nat) : nI x * nI y = nI ((x * y) % 4294967296) := by
  rw [ev_nImod]
  exact (Int32.ofNat_mul x y).symm
theorem ev_subI {x y : Nat} (hx : x < 4294967296) (hy : y < 4294967296) : nI x - nI y = nI ((x + (4294967296 - y)) % 4294967296) := by
  apply ev_iext
  rw [ev_nIn]
  rw [Int32.toBitVec_sub, BitVec.toNat_sub, ev_nIn, ev_nIn]
  omega
theorem ev_negI {x : Nat} (hx : x < 4294967296) : -(nI x) = nI ((4294967296 - x) % 4294967296) := by
  apply ev_iext
  rw [ev_nIn, Int32.toBitVec_neg, BitVec.toNat_neg, ev_nIn]
  omega
theorem ev_andI {x y : Nat} (hx : x < 4294967296) (hy : y < 4294967296) : nI x &&& nI y = nI (x &&& y) := by
  apply ev_iext
  rw [ev_nIn, Int32.toBitVec_and, BitVec.toNat_and, ev_nIn, ev_nIn, Nat.mod_eq_of_lt hx, Nat.mod_eq_of_lt hy, Nat.mod_eq_of_lt (Nat.lt_of_le_of_lt Nat.and_le_left hx)]
theorem ev_orI {x y : Nat} (hx : x < 4294967296) (hy : y < 4294967296) : nI x ||| nI y = nI (x ||| y) := by
  apply ev_iext
  rw [ev_nIn, Int32.toBitVec_or, BitVec.toNat_or, ev_nIn, ev_nIn, Nat.mod_eq_of_lt hx, Nat.mod_eq_of_lt hy, Nat.mod_eq_of_lt (Nat.or_lt_two_pow (n := 32) hx hy)]
theorem ev_xorI {x y : Nat} (hx : x < 4294967296) (hy : y < 4294967296) : nI x ^^^ nI y = nI (x ^^^ y) := by
  apply ev_iext
  rw [ev_nIn, Int32.toBitVec_xor, BitVec.toNat_xor, ev_nIn, ev_nIn, Nat.mod_eq_of_lt hx, Nat.mod_eq_of_lt hy, Nat.mod_eq_of_lt (Nat.xor_lt_two_pow (n := 32) hx hy)]
/-- an int's place among the signed ones -/
def ev_s (x : Nat) : Nat := (x + 2147483648) % 4294967296
theorem ev_toI {x : Nat} (hx : x < 4294967296) : (nI x).toInt = (ev_s x : Int) - 2147483648 := by
  show (nI x).toBitVec.toInt = _
  rw [BitVec.toInt_eq_toNat_cond, ev_nIn, Nat.mod_eq_of_lt hx]
  unfold ev_s
  split <;> omega
theorem ev_ltI {x y : Nat} (hx : x < 4294967296) (hy : y < 4294967296) : nI x < nI y ↔ ev_s x < ev_s y := by
  rw [Int32.lt_iff_toInt_lt, ev_toI hx, ev_toI hy]
  omega
theorem ev_leI {x y : Nat} (hx : x < 4294967296) (hy : y < 4294967296) : nI x ≤ nI y ↔ ev_s x ≤ ev_s y := by
  rw [Int32.le_iff_toInt_le, ev_toI hx, ev_toI hy]
  omega
theorem ev_eqI {x y : Nat} (hx : x < 4294967296) (hy : y < 4294967296) : nI x = nI y ↔ x = y := by
  constructor
  · intro h
    have h2 := congrArg (fun v : Int32 => v.toBitVec.toNat) h
    simp only [ev_nIn] at h2
    omega
  · intro h; rw [h]
theorem ev_ushrI {x y : Nat} (hx : x < 4294967296) (hy : y < 4294967296) : ((nI x).toUInt32 >>> ((nI y).toUInt32 &&& Int32.toUInt32 31)).toInt32 = nI (x >>> (y % 32)) := by
  apply ev_iext
  rw [ev_nIn]
  show ((nI x).toUInt32 >>> ((nI y).toUInt32 &&& Int32.toUInt32 31)).toNat = _
  rw [UInt32.toNat_shiftRight, UInt32.toNat_and]
  have e1 : (nI x).toUInt32.toNat = x := by show (nI x).toBitVec.toNat = x; rw [ev_nIn]; exact Nat.mod_eq_of_lt hx
  have e2 : (nI y).toUInt32.toNat = y := by show (nI y).toBitVec.toNat = y; rw [ev_nIn]; exact Nat.mod_eq_of_lt hy
  have e3 : (Int32.toUInt32 31).toNat = 31 := by decide
  rw [e1, e2, e3, show (31 : Nat) = 2 ^ 5 - 1 from rfl, Nat.and_two_pow_sub_one_eq_mod]
  have h1 : y % 2 ^ 5 % 32 = y % 32 := by omega
  rw [h1]
  exact (Nat.mod_eq_of_lt (Nat.lt_of_le_of_lt (Nat.shiftRight_le x _) hx)).symm
theorem ev_i2l {x : Nat} (hx : x < 4294967296) : (nI x).toInt64 = lN (bif x.blt 2147483648 then x else x + 18446744069414584320) := by
  apply Int64.toInt_inj.mp
  rw [Int32.toInt_toInt64, ev_toI hx]
  show _ = (lN _).toBitVec.toInt
  rw [BitVec.toInt_eq_toNat_cond, ev_lNn]
  unfold ev_s
  cases hq : x.blt 2147483648
  · have : ¬ x < 2147483648 := fun q => by rw [Nat.blt_eq.mpr q] at hq; cases hq
    simp only [cond_false]
    split <;> omega
  · have : x < 2147483648 := Nat.blt_eq.mp hq
    simp only [cond_true]
    split <;> omega
theorem ev_l2i (n : Nat) : (lN n).toInt32 = nI (n % 4294967296) := by rw [lN_i, ev_nImod]
theorem ev_i2b {x : Nat} (hx : x < 4294967296) : (nI x).toInt8.toInt32 = nI (bif (x % 256).blt 128 then x % 256 else x % 256 + 4294967040) := by
  apply Int32.toInt_inj.mp
  rw [Int8.toInt_toInt32]
  show (nI x).toInt8.toBitVec.toInt = (nI _).toBitVec.toInt
  rw [BitVec.toInt_eq_toNat_cond, BitVec.toInt_eq_toNat_cond, ev_nIn]
  have e1 : (nI x).toInt8.toBitVec.toNat = x % 256 := by
    have : (nI x).toInt8.toBitVec = (nI x).toBitVec.signExtend 8 := by first | rfl | exact Int32.toBitVec_toInt8 _
    rw [this, BitVec.signExtend_eq_setWidth_of_le _ (by decide), BitVec.toNat_setWidth, ev_nIn]
    omega
  rw [e1]
  cases hq : (x % 256).blt 128
  · have : ¬ x % 256 < 128 := fun q => by rw [Nat.blt_eq.mpr q] at hq; cases hq
    simp only [cond_false]
    split <;> split <;> omega
  · have : x % 256 < 128 := Nat.blt_eq.mp hq
    simp only [cond_true]
    split <;> split <;> omega
theorem ev_i2c {x : Nat} (hx : x < 4294967296) : ((nI x).toUInt32 % 65536).toInt32 = nI (x % 65536) := by
  rw [pk_char, ev_nIn, Nat.mod_eq_of_lt hx]
theorem ev_addL (x y : Nat) : lN x + lN y = lN ((x + y) % 18446744073709551616) := by rw [ev_lNmod, lN_add]
theorem ev_mulL (x y : Nat) : lN x * lN y = lN ((x * y) % 18446744073709551616) := by rw [ev_lNmod, lN_mul]
theorem ev_subL {x y : Nat} (hx : x < 18446744073709551616) (hy : y < 18446744073709551616) : lN x - lN y = lN ((x + (18446744073709551616 - y)) % 18446744073709551616) := by
  apply ev_lext
  rw [ev_lNn]
  rw [Int64.toBitVec_sub, BitVec.toNat_sub, ev_lNn, ev_lNn]
  omega
theorem ev_andL {x y : Nat} (hx : x < 18446744073709551616) (hy : y < 18446744073709551616) : lN x &&& lN y = lN (x &&& y) := by
  apply ev_lext
  rw [ev_lNn, Int64.toBitVec_and, BitVec.toNat_and, ev_lNn, ev_lNn, Nat.mod_eq_of_lt hx, Nat.mod_eq_of_lt hy, Nat.mod_eq_of_lt (Nat.lt_of_le_of_lt Nat.and_le_left hx)]
theorem ev_xorL {x y : Nat} (hx : x < 18446744073709551616) (hy : y < 18446744073709551616) : lN x ^^^ lN y = lN (x ^^^ y) := by
  apply ev_lext
  rw [ev_lNn, Int64.toBitVec_xor, BitVec.toNat_xor, ev_lNn, ev_lNn, Nat.mod_eq_of_lt hx, Nat.mod_eq_of_lt hy, Nat.mod_eq_of_lt (Nat.xor_lt_two_pow (n := 64) hx hy)]
theorem ev_ushrL {x y : Nat} (hx : x < 18446744073709551616) (hy : y < 4294967296) : ((lN x).toUInt64 >>> ((nI y).toInt64.toUInt64 &&& Int64.toUInt64 63)).toInt64 = lN (x >>> (y % 64)) := by
  apply ev_lext
  rw [ev_lNn]
  show ((lN x).toUInt64 >>> ((nI y).toInt64.toUInt64 &&& Int64.toUInt64 63)).toNat = _
  rw [UInt64.toNat_shiftRight, UInt64.toNat_and, ev_i2l hy]
  have e1 : (lN x).toUInt64.toNat = x := by show (lN x).toBitVec.toNat = x; rw [ev_lNn]; exact Nat.mod_eq_of_lt hx
  have e2 : ∀ z : Nat, (lN z).toUInt64.toNat = z % 18446744073709551616 := fun z => by show (lN z).toBitVec.toNat = _; rw [ev_lNn]
  have e3 : (Int64.toUInt64 63).toNat = 63 := by decide
  rw [e1, e2, e3, show (63 : Nat) = 2 ^ 6 - 1 from rfl, Nat.and_two_pow_sub_one_eq_mod]
  have h1 : (bif y.blt 2147483648 then y else y + 18446744069414584320) % 18446744073709551616 % 2 ^ 6 % 64 = y % 64 := by
    cases y.blt 2147483648 <;> simp only [cond_true, cond_false] <;> omega
  rw [h1]
  exact (Nat.mod_eq_of_lt (Nat.lt_of_le_of_lt (Nat.shiftRight_le x _) hx)).symm
/-- a long's place among the signed ones -/
def ev_sl (x : Nat) : Nat := (x + 9223372036854775808) % 18446744073709551616
theorem ev_toL {x : Nat} (hx : x < 18446744073709551616) : (lN x).toInt = (ev_sl x : Int) - 9223372036854775808 := by
  show (lN x).toBitVec.toInt = _
  rw [BitVec.toInt_eq_toNat_cond, ev_lNn, Nat.mod_eq_of_lt hx]
  unfold ev_sl
  split <;> omega
theorem ev_cmpL {x y : Nat} (hx : x < 18446744073709551616) (hy : y < 18446744073709551616) : lg_cmp (lN x) (lN y) = nI (bif (ev_sl y).blt (ev_sl x) then 1 else bif x.beq y then 0 else 4294967295) := by
  have hlt : ∀ {a b : Nat}, a < 18446744073709551616 → b < 18446744073709551616 → (lN a < lN b ↔ ev_sl a < ev_sl b) := by
    intro a b ha hb
    rw [Int64.lt_iff_toInt_lt, ev_toL ha, ev_toL hb]
    omega
  have heq : lN x = lN y ↔ x = y := by
    constructor
    · intro h
      have h2 := congrArg (fun v : Int64 => v.toBitVec.toNat) h
      simp only [ev_lNn] at h2
      omega
    · intro h; rw [h]
  unfold lg_cmp
  cases h1 : (ev_sl y).blt (ev_sl x)
  · have q1 : ¬ lN y < lN x := fun q => by rw [Nat.blt_eq.mpr ((hlt hy hx).mp q)] at h1; cases h1
    cases h2 : x.beq y
    · have q2 : ¬ lN x = lN y := fun q => by rw [heq.mp q, Nat.beq_refl] at h2; cases h2
      simp only [q1, q2, if_false, cond_false]
      rfl
    · have q2 : lN x = lN y := heq.mpr (Nat.eq_of_beq_eq_true h2)
      simp only [q1, if_false, cond_false, cond_true]
      rw [if_pos q2]
      rfl
  · have q1 : lN y < lN x := (hlt hy hx).mpr (Nat.blt_eq.mp h1)
    simp only [q1, if_true, cond_true]
    rfl
/-! rows of numbers packed into one: place j holds the bits 72 j .. 72 j + 71 -/
def ev_at (A j : Nat) : Nat := (A >>> (72 * j)) % 4722366482869645213696
def ev_up (A j v : Nat) : Nat := A ^^^ (((ev_at A j) ^^^ v) <<< (72 * j))
theorem ev_at_tb (A j i : Nat) : (ev_at A j).testBit i = (decide (i < 72) && A.testBit (72 * j + i)) := by
  unfold ev_at
  rw [show (4722366482869645213696 : Nat) = 2 ^ 72 from rfl, Nat.testBit_mod_two_pow, Nat.testBit_shiftRight]
theorem ev_at_lt (A j : Nat) : ev_at A j < 4722366482869645213696 := Nat.mod_lt _ (by decide)
theorem ev_at_0 (j : Nat) : ev_at 0 j = 0 := by unfold ev_at; rw [Nat.zero_shiftRight]
theorem ev_at_up {A j v : Nat} (hv : v < 4722366482869645213696) (k : Nat) : ev_at (ev_up A j v) k = if k = j then v else ev_at A k := by
  apply Nat.eq_of_testBit_eq
  intro i
  have hvi : ∀ i, 72 ≤ i → v.testBit i = false := fun i hi => Nat.testBit_lt_two_pow (Nat.lt_of_lt_of_le hv (Nat.pow_le_pow_right (n := 2) (by decide) hi))
  rw [ev_at_tb]
  unfold ev_up
  rw [Nat.testBit_xor, Nat.testBit_shiftLeft, Nat.testBit_xor, ev_at_tb]
  by_cases hkj : k = j
  · subst hkj
    rw [if_pos rfl]
    have e1 : 72 * k ≤ 72 * k + i := Nat.le_add_right _ _
    have e2 : 72 * k + i - 72 * k = i := by omega
    rw [e2]
    simp only [e1, decide_true, Bool.true_and, ge_iff_le]
    by_cases hi : i < 72
    · simp [hi]
    · have := hvi i (by omega)
      simp [hi, this]
  · rw [if_neg hkj, ev_at_tb]
    by_cases hi : i < 72
    · simp only [hi, decide_true, Bool.true_and]
      have h0 : (decide (72 * k + i ≥ 72 * j) && ((decide (72 * k + i - 72 * j < 72) && A.testBit (72 * j + (72 * k + i - 72 * j))) ^^ v.testBit (72 * k + i - 72 * j))) = false := by
        by_cases hq : 72 * j ≤ 72 * k + i
        · have hge : 72 ≤ 72 * k + i - 72 * j := by omega
          have hnl : ¬ 72 * k + i - 72 * j < 72 := by omega
          have := hvi _ hge
          simp [hnl, this]
        · simp [hq]
      rw [h0]
      simp
    · simp [hi]
/-- how a signed byte stands as an int -/
def ev_b8 (x : Nat) : Nat := bif (x % 256).blt 128 then x % 256 else x % 256 + 4294967040
end
section
/-! ===== 02: the evaluator's values, and the instructions that move the frame alone ===== -/
abbrev ev_C : Type := Nat × Nat × Nat
abbrev ev_H : Type := List ev_C
abbrev ev_KA : Type := List (Nat × Nat)
/-- a value: an int n as n, a long n as 2^64 + n, a reference to cell k as 2^65 + k, null as 3 * 2^64; a local that holds nothing as 4 * 2^64; the i-th constant string 5 * 2^64 + i, its row of bytes 6 * 2^64 + i; 7 * 2^64: some reference or null, nobody asks which -/
def ev_v (ka : ev_KA) (ads : List Nat) (x : Nat) (v : Value) : Prop :=
  (x < 4294967296 ∧ v = .int (nI x)) ∨ (∃ n, n < 18446744073709551616 ∧ x = 18446744073709551616 + n ∧ v = .long (lN n)) ∨ (∃ k q, k < 18446744073709551616 ∧ x = 36893488147419103232 + k ∧ ads[k]? = some q ∧ v = .ref q) ∨ (x = 55340232221128654848 ∧ v = .null) ∨ (∃ i q, i < 18446744073709551616 ∧ x = 92233720368547758080 + i ∧ ka[i]? = some q ∧ v = .ref q.1) ∨ (∃ i q, i < 18446744073709551616 ∧ x = 110680464442257309696 + i ∧ ka[i]? = some q ∧ v = .ref q.2) ∨ (x = 129127208515966861312 ∧ (v = .null ∨ ∃ q, v = .ref q))
def ev_isI (x : Nat) : Bool := Nat.blt x 4294967296
def ev_isL (x : Nat) : Bool := Nat.ble 18446744073709551616 x && Nat.blt x 36893488147419103232
def ev_isR (x : Nat) : Bool := Nat.ble 36893488147419103232 x && Nat.blt x 55340232221128654848
def ev_isN (x : Nat) : Bool := Nat.beq x 55340232221128654848
theorem ev_isI_s {x : Nat} (h : ev_isI x = true) : x < 4294967296 := Nat.blt_eq.mp h
theorem ev_isL_s {x : Nat} (h : ev_isL x = true) : 18446744073709551616 ≤ x ∧ x < 36893488147419103232 := by
  simp only [ev_isL, Bool.and_eq_true] at h
  exact ⟨Nat.le_of_ble_eq_true h.1, Nat.blt_eq.mp h.2⟩
theorem ev_isL_f {x : Nat} (h : ev_isL x = false) : ¬ (18446744073709551616 ≤ x ∧ x < 36893488147419103232) := by
  intro q
  simp only [ev_isL, Bool.and_eq_false_iff] at h
  rcases h with h | h
  · rw [Nat.ble_eq_true_of_le q.1] at h; cases h
  · rw [Nat.blt_eq.mpr q.2] at h; cases h
theorem ev_isR_s {x : Nat} (h : ev_isR x = true) : 36893488147419103232 ≤ x ∧ x < 55340232221128654848 := by
  simp only [ev_isR, Bool.and_eq_true] at h
  exact ⟨Nat.le_of_ble_eq_true h.1, Nat.blt_eq.mp h.2⟩
theorem ev_v.i {ka : ev_KA} {ads : List Nat} {x : Nat} {v : Value} (h : ev_v ka ads x v) (hx : ev_isI x = true) : v = .int (nI x) ∧ x < 4294967296 := by
  have hx := ev_isI_s hx
  rcases h with h | ⟨n, _, h, _⟩ | ⟨k, q, _, h, _⟩ | ⟨h, _⟩ | ⟨i, q, _, h, _⟩ | ⟨i, q, _, h, _⟩ | ⟨h, _⟩
  · exact ⟨h.2, hx⟩
  all_goals omega
theorem ev_v.l {ka : ev_KA} {ads : List Nat} {x : Nat} {v : Value} (h : ev_v ka ads x v) (hx : ev_isL x = true) : v = .long (lN (x - 18446744073709551616)) ∧ x - 18446744073709551616 < 18446744073709551616 := by
  have hx := ev_isL_s hx
  rcases h with h | ⟨n, hn, h, e⟩ | ⟨k, q, _, h, _⟩ | ⟨h, _⟩ | ⟨i, q, _, h, _⟩ | ⟨i, q, _, h, _⟩ | ⟨h, _⟩
  · omega
  · have : x - 18446744073709551616 = n := by omega
    rw [this]
    exact ⟨e, hn⟩
  all_goals omega
theorem ev_v.r {ka : ev_KA} {ads : List Nat} {x : Nat} {v : Value} (h : ev_v ka ads x v) (hx : ev_isR x = true) : ∃ q, ads[x - 36893488147419103232]? = some q ∧ v = .ref q := by
  have hx := ev_isR_s hx
  rcases h with h | ⟨n, hn, h, e⟩ | ⟨k, q, hk, h, h1, h2⟩ | ⟨h, _⟩ | ⟨i, q, _, h, _⟩ | ⟨i, q, _, h, _⟩ | ⟨h, _⟩
  · omega
  · omega
  · have : x - 36893488147419103232 = k := by omega
    rw [this]
    exact ⟨q, h1, h2⟩
  all_goals omega
theorem ev_v.n {ka : ev_KA} {ads : List Nat} {x : Nat} {v : Value} (h : ev_v ka ads x v) (hx : ev_isN x = true) : v = .null := by
  have hx := Nat.eq_of_beq_eq_true hx
  rcases h with h | ⟨n, hn, h, e⟩ | ⟨k, q, hk, h, h1, h2⟩ | ⟨h, e⟩ | ⟨i, q, _, h, _⟩ | ⟨i, q, _, h, _⟩ | ⟨h, _⟩
  · omega
  · omega
  · omega
  · exact e
  all_goals omega
theorem ev_v.int {ka : ev_KA} {ads : List Nat} {x : Nat} (h : x < 4294967296) : ev_v ka ads x (.int (nI x)) := Or.inl ⟨h, rfl⟩
theorem ev_v.long {ka : ev_KA} {ads : List Nat} {n : Nat} (h : n < 18446744073709551616) : ev_v ka ads (18446744073709551616 + n) (.long (lN n)) := Or.inr (Or.inl ⟨n, h, rfl, rfl⟩)
theorem ev_v.null {ka : ev_KA} {ads : List Nat} : ev_v ka ads 55340232221128654848 .null := Or.inr (Or.inr (Or.inr (Or.inl ⟨rfl, rfl⟩)))
theorem ev_v.mono {ka : ev_KA} {ads l : List Nat} {x : Nat} {v : Value} (h : ev_v ka ads x v) : ev_v ka (ads ++ l) x v := by
  rcases h with h | h | ⟨k, q, hk, h, h1, h2⟩ | h
  · exact Or.inl h
  · exact Or.inr (Or.inl h)
  · refine Or.inr (Or.inr (Or.inl ⟨k, q, hk, h, ?_, h2⟩))
    rw [List.getElem?_append_left (List.getElem?_eq_some_iff.mp h1).1]
    exact h1
  · exact Or.inr (Or.inr (Or.inr h))
theorem ev_v.cat1 {ka : ev_KA} {ads : List Nat} {x : Nat} {v : Value} (h : ev_v ka ads x v) (hx : ev_isL x = false) : v.category = 1 := by
  have hx := ev_isL_f hx
  rcases h with ⟨h, e⟩ | ⟨n, hn, h, e⟩ | ⟨k, q, hk, h, h1, e⟩ | ⟨h, e⟩ | ⟨i, q, _, h, _, e⟩ | ⟨i, q, _, h, _, e⟩ | ⟨h, e | ⟨q, e⟩⟩
  · rw [e]; rfl
  · omega
  all_goals (rw [e]; rfl)
theorem ev_v.lt {ka : ev_KA} {ads : List Nat} {x : Nat} {v : Value} (h : ev_v ka ads x v) : x < 4722366482869645213696 := by
  rcases h with ⟨h, e⟩ | ⟨n, hn, h, e⟩ | ⟨k, q, hk, h, h1, e⟩ | ⟨h, e⟩ | ⟨i, q, _, h, _, e⟩ | ⟨i, q, _, h, _, e⟩ | ⟨h, e⟩ <;> omega
theorem ev_v.nU {ka : ev_KA} {ads : List Nat} {x : Nat} {v : Value} (h : ev_v ka ads x v) : x ≠ 73786976294838206464 := by
  rcases h with ⟨h, e⟩ | ⟨n, hn, h, e⟩ | ⟨k, q, hk, h, h1, e⟩ | ⟨h, e⟩ | ⟨i, q, _, h, _, e⟩ | ⟨i, q, _, h, _, e⟩ | ⟨h, e⟩ <;> omega
/-- the stack -/
def ev_S (ka : ev_KA) (ads : List Nat) : List Nat → List Value → Prop
  | [], [] => True
  | x :: l, v :: r => ev_v ka ads x v ∧ ev_S ka ads l r
  | _, _ => False
theorem ev_S.mono {ka : ev_KA} {ads l : List Nat} : ∀ {st : List Nat} {vs : List Value}, ev_S ka ads st vs → ev_S ka (ads ++ l) st vs
  | [], [], _ => trivial
  | _ :: _, _ :: _, h => ⟨h.1.mono, h.2.mono⟩
  | [], _ :: _, h => h.elim
  | _ :: _, [], h => h.elim
theorem ev_S.cons {ka : ev_KA} {ads : List Nat} {x : Nat} {st : List Nat} {vs : List Value} (h : ev_S ka ads (x :: st) vs) : ∃ v r, vs = v :: r ∧ ev_v ka ads x v ∧ ev_S ka ads st r := by
  cases vs with
  | nil => exact h.elim
  | cons v r => exact ⟨v, r, rfl, h.1, h.2⟩
theorem ev_S.nil {ka : ev_KA} {ads : List Nat} {vs : List Value} (h : ev_S ka ads [] vs) : vs = [] := by
  cases vs with
  | nil => rfl
  | cons v r => exact h.elim
/-- the locals -/
def ev_L (ka : ev_KA) (ads : List Nat) (nL : Nat) (L : List Nat) (ls : Array Slot) : Prop :=
  L.length = nL ∧ ∃ lv, lv_has ls nL lv ∧ ∀ i x, L[i]? = some x → x = 73786976294838206464 ∨ ∃ v, (i, v) ∈ lv ∧ ev_v ka ads x v
theorem ev_L.mono {ka : ev_KA} {ads l : List Nat} {nL : Nat} {L : List Nat} {ls : Array Slot} (h : ev_L ka ads nL L ls) : ev_L ka (ads ++ l) nL L ls := by
  obtain ⟨h1, lv, h2, h3⟩ := h
  refine ⟨h1, lv, h2, fun i x hx => ?_⟩
  rcases h3 i x hx with h | ⟨v, h4, h5⟩
  · exact Or.inl h
  · exact Or.inr ⟨v, h4, h5.mono⟩
theorem ev_L.get {ka : ev_KA} {ads : List Nat} {nL : Nat} {L : List Nat} {ls : Array Slot} (h : ev_L ka ads nL L ls) {i x : Nat} (hx : L[i]? = some x) (hU : x ≠ 73786976294838206464) : ∃ v, ls[i]? = some (.val v) ∧ ev_v ka ads x v := by
  obtain ⟨_, lv, h2, h3⟩ := h
  rcases h3 i x hx with h | ⟨v, h4, h5⟩
  · exact absurd h hU
  · exact ⟨v, h2.2.2 _ h4, h5⟩
/-- what a store of one word does to the locals -/
def ev_set1 (L : List Nat) (i x : Nat) : List Nat := match i with
  | 0 => L.set 0 x
  | j + 1 => match L[j]? with
    | some y => bif ev_isL y then (L.set j 73786976294838206464).set (j + 1) x else L.set (j + 1) x
    | none => L.set (j + 1) x
def ev_set2 (L : List Nat) (i x : Nat) : List Nat := (ev_set1 L i x).set (i + 1) 73786976294838206464
theorem ev_set1_len (L : List Nat) (i x : Nat) : (ev_set1 L i x).length = L.length := by
  unfold ev_set1
  split
  · simp
  · split
    · rename_i y _
      cases ev_isL y <;> simp
    · simp
theorem ev_set1_get {ka : ev_KA} {ads : List Nat} {nL : Nat} {L : List Nat} {ls : Array Slot} {lv : List (Nat × Value)} {i x k y : Nat} {v : Value} (hL : ∀ i x, L[i]? = some x → x = 73786976294838206464 ∨ ∃ v, (i, v) ∈ lv ∧ ev_v ka ads x v) (hk : (ev_set1 L i x)[k]? = some y) :
    (k = i ∧ y = x) ∨ y = 73786976294838206464 ∨ (k ≠ i ∧ ∃ w, (k, w) ∈ lv ∧ ev_v ka ads y w ∧ (k + 1 = i → w.category = 1)) := by
  have hgen : ∀ {k' : Nat}, k' = k → ∀ {y' : Nat}, L[k']? = some y' → y' = y → k ≠ i → (k + 1 = i → ev_isL y = false) → y = 73786976294838206464 ∨ (k ≠ i ∧ ∃ w, (k, w) ∈ lv ∧ ev_v ka ads y w ∧ (k + 1 = i → w.category = 1)) := by
    intro k' e1 y' e2 e3 hne hlong
    subst e1; subst e3
    rcases hL _ _ e2 with h | ⟨w, h4, h5⟩
    · exact Or.inl h
    · exact Or.inr ⟨hne, w, h4, h5, fun q => h5.cat1 (hlong q)⟩
  by_cases hki : k = i
  · left
    refine ⟨hki, ?_⟩
    subst hki
    unfold ev_set1 at hk
    split at hk
    · rw [List.getElem?_set] at hk
      simp at hk
      exact hk.2.symm
    · split at hk
      · rename_i y0 _
        cases hq : ev_isL y0 <;> rw [hq] at hk <;> simp only [cond_true, cond_false, List.getElem?_set] at hk <;> simp at hk <;> exact hk.2.symm
      · rw [List.getElem?_set] at hk
        simp at hk
        exact hk.2.symm
  · right
    unfold ev_set1 at hk
    split at hk
    · rw [List.getElem?_set_ne (fun q => hki q.symm)] at hk
      exact hgen rfl hk rfl hki (fun q => by omega)
    · rename_i j
      split at hk
      · rename_i y0 hy0
        cases hq : ev_isL y0 <;> rw [hq] at hk <;> simp only [cond_true, cond_false] at hk <;> rw [List.getElem?_set_ne (fun q => hki q.symm)] at hk
        · refine hgen rfl hk rfl hki (fun q => ?_)
          have : k = j := by omega
          subst this
          rw [hy0] at hk
          cases hk
          exact hq
        · by_cases hkj : k = j
          · subst hkj
            rw [List.getElem?_set] at hk
            simp at hk
            exact Or.inl hk.2.symm
          · rw [List.getElem?_set_ne (fun q => hkj q.symm)] at hk
            exact hgen rfl hk rfl hki (fun q => by omega)
      · rename_i hy0
        rw [List.getElem?_set_ne (fun q => hki q.symm)] at hk
        refine hgen rfl hk rfl hki (fun q => ?_)
        have : k = j := by omega
        subst this
        rw [hy0] at hk
        cases hk
theorem ev_L.set1 {ka : ev_KA} {ads : List Nat} {nL : Nat} {L : List Nat} {lv : List (Nat × Value)} {i x : Nat} {v : Value} {ls' : Array Slot} (hlen : L.length = nL) (hL : ∀ i x, L[i]? = some x → x = 73786976294838206464 ∨ ∃ v, (i, v) ∈ lv ∧ ev_v ka ads x v) (hv : ev_v ka ads x v)
    (h' : lv_has ls' nL ((i, v) :: lv.filter (fun q => !(q.1 == i) && !(q.1 + 1 == i && q.2.category == 2)))) : ev_L ka ads nL (ev_set1 L i x) ls' := by
  refine ⟨(ev_set1_len L i x).trans hlen, _, h', fun k y hy => ?_⟩
  rcases ev_set1_get (ls := ls') (nL := nL) (v := v) hL hy with ⟨e1, e2⟩ | h | ⟨hne, w, h4, h5, h6⟩
  · subst e1; subst e2
    exact Or.inr ⟨v, List.mem_cons_self, hv⟩
  · exact Or.inl h
  · refine Or.inr ⟨w, List.mem_cons_of_mem _ (List.mem_filter.mpr ⟨h4, ?_⟩), h5⟩
    by_cases q : k + 1 = i
    · simp [hne, q, h6 q]
    · simp [hne, q]
theorem ev_L.set2 {ka : ev_KA} {ads : List Nat} {nL : Nat} {L : List Nat} {lv : List (Nat × Value)} {i x : Nat} {v : Value} {ls' : Array Slot} (hlen : L.length = nL) (hL : ∀ i x, L[i]? = some x → x = 73786976294838206464 ∨ ∃ v, (i, v) ∈ lv ∧ ev_v ka ads x v) (hv : ev_v ka ads x v)
    (h' : lv_has ls' nL ((i, v) :: lv.filter (fun q => !(q.1 == i) && (!(q.1 == i + 1) && !(q.1 + 1 == i && q.2.category == 2))))) : ev_L ka ads nL (ev_set2 L i x) ls' := by
  refine ⟨by unfold ev_set2; rw [List.length_set]; exact (ev_set1_len L i x).trans hlen, _, h', fun k y hy => ?_⟩
  unfold ev_set2 at hy
  by_cases hk1 : k = i + 1
  · subst hk1
    rw [List.getElem?_set] at hy
    simp at hy
    exact Or.inl hy.2.symm
  · rw [List.getElem?_set_ne (fun q => hk1 q.symm)] at hy
    rcases ev_set1_get (ls := ls') (nL := nL) (v := v) hL hy with ⟨e1, e2⟩ | h | ⟨hne, w, h4, h5, h6⟩
    · subst e1; subst e2
      exact Or.inr ⟨v, List.mem_cons_self, hv⟩
    · exact Or.inl h
    · refine Or.inr ⟨w, List.mem_cons_of_mem _ (List.mem_filter.mpr ⟨h4, ?_⟩), h5⟩
      by_cases q : k + 1 = i
      · simp [hne, hk1, q, h6 q]
      · simp [hne, hk1, q]
/-! the instructions: where they lead, what they leave -/
abbrev ev_F : Type := Nat × List Nat × List Nat
def ev_ldI (d n pc : Nat) (L st : List Nat) : Option ev_F := match L[n]? with
  | some x => bif ev_isI x then some (pc + d, L, x :: st) else none
  | none => none
def ev_ldL (d n pc : Nat) (L st : List Nat) : Option ev_F := match L[n]? with
  | some x => bif ev_isL x then some (pc + d, L, x :: st) else none
  | none => none
def ev_ldR (d n pc : Nat) (L st : List Nat) : Option ev_F := match L[n]? with
  | some x => bif ev_isR x || ev_isN x then some (pc + d, L, x :: st) else none
  | none => none
def ev_stI (d n pc : Nat) (L st : List Nat) : Option ev_F := match st with
  | x :: r => bif ev_isI x && Nat.blt n L.length then some (pc + d, ev_set1 L n x, r) else none
  | [] => none
def ev_stL (d n pc : Nat) (L st : List Nat) : Option ev_F := match st with
  | x :: r => bif ev_isL x && Nat.blt (n + 1) L.length then some (pc + d, ev_set2 L n x, r) else none
  | [] => none
def ev_stR (d n pc : Nat) (L st : List Nat) : Option ev_F := match st with
  | x :: r => bif (ev_isR x || ev_isN x) && Nat.blt n L.length then some (pc + d, ev_set1 L n x, r) else none
  | [] => none
def ev_binI (pc : Nat) (L st : List Nat) (f : Nat → Nat → Nat) : Option ev_F := match st with
  | y :: x :: r => bif ev_isI y && ev_isI x then some (pc + 1, L, f x y :: r) else none
  | _ => none
def ev_binL (pc : Nat) (L st : List Nat) (f : Nat → Nat → Nat) : Option ev_F := match st with
  | y :: x :: r => bif ev_isL y && ev_isL x then some (pc + 1, L, f (x - 18446744073709551616) (y - 18446744073709551616) :: r) else none
  | _ => none
def ev_unI (pc : Nat) (L st : List Nat) (f : Nat → Nat) : Option ev_F := match st with
  | x :: r => bif ev_isI x then some (pc + 1, L, f x :: r) else none
  | _ => none
def ev_oAdd (x y : Nat) : Nat := (x + y) % 4294967296
def ev_oSub (x y : Nat) : Nat := (x + (4294967296 - y)) % 4294967296
def ev_oMul (x y : Nat) : Nat := (x * y) % 4294967296
def ev_oAnd (x y : Nat) : Nat := x &&& y
def ev_oOr (x y : Nat) : Nat := x ||| y
def ev_oXor (x y : Nat) : Nat := x ^^^ y
def ev_oUsh (x y : Nat) : Nat := x >>> (y % 32)
def ev_oNeg (x : Nat) : Nat := (4294967296 - x) % 4294967296
def ev_oI2c (x : Nat) : Nat := x % 65536
def ev_oI2l (x : Nat) : Nat := 18446744073709551616 + (bif x.blt 2147483648 then x else x + 18446744069414584320)
def ev_oAddL (x y : Nat) : Nat := 18446744073709551616 + (x + y) % 18446744073709551616
def ev_oSubL (x y : Nat) : Nat := 18446744073709551616 + (x + (18446744073709551616 - y)) % 18446744073709551616
def ev_oMulL (x y : Nat) : Nat := 18446744073709551616 + (x * y) % 18446744073709551616
def ev_oAndL (x y : Nat) : Nat := 18446744073709551616 + (x &&& y)
def ev_oXorL (x y : Nat) : Nat := 18446744073709551616 + (x ^^^ y)
def ev_oCmpL (x y : Nat) : Nat := bif (ev_sl y).blt (ev_sl x) then 1 else bif x.beq y then 0 else 4294967295
def ev_oL2i (x : Nat) : Nat := (x - 18446744073709551616) % 4294967296
def ev_oUshL (x y : Nat) : Nat := 18446744073709551616 + ((x - 18446744073709551616) >>> (y % 64))
def ev_oLc (n : Nat) : Nat := 18446744073709551616 + n
theorem ev_oAdd_v {ka : ev_KA} {ads : List Nat} (x y : Nat) : ev_v ka ads (ev_oAdd x y) (.int (nI x + nI y)) := by rw [ev_addI]; exact .int (Nat.mod_lt _ (by decide))
theorem ev_oSub_v {ka : ev_KA} {ads : List Nat} {x y : Nat} (h1 : x < 4294967296) (h2 : y < 4294967296) : ev_v ka ads (ev_oSub x y) (.int (nI x - nI y)) := by rw [ev_subI h1 h2]; exact .int (Nat.mod_lt _ (by decide))
theorem ev_oMul_v {ka : ev_KA} {ads : List Nat} (x y : Nat) : ev_v ka ads (ev_oMul x y) (.int (nI x * nI y)) := by rw [ev_mulI]; exact .int (Nat.mod_lt _ (by decide))
theorem ev_oAnd_v {ka : ev_KA} {ads : List Nat} {x y : Nat} (h1 : x < 4294967296) (h2 : y < 4294967296) : ev_v ka ads (ev_oAnd x y) (.int (nI x &&& nI y)) := by rw [ev_andI h1 h2]; exact .int (Nat.lt_of_le_of_lt Nat.and_le_left h1)
theorem ev_oOr_v {ka : ev_KA} {ads : List Nat} {x y : Nat} (h1 : x < 4294967296) (h2 : y < 4294967296) : ev_v ka ads (ev_oOr x y) (.int (nI x ||| nI y)) := by rw [ev_orI h1 h2]; exact .int (Nat.or_lt_two_pow (n := 32) h1 h2)
theorem ev_oXor_v {ka : ev_KA} {ads : List Nat} {x y : Nat} (h1 : x < 4294967296) (h2 : y < 4294967296) : ev_v ka ads (ev_oXor x y) (.int (nI x ^^^ nI y)) := by rw [ev_xorI h1 h2]; exact .int (Nat.xor_lt_two_pow (n := 32) h1 h2)
theorem ev_oUsh_v {ka : ev_KA} {ads : List Nat} {x y : Nat} (h1 : x < 4294967296) : ev_v ka ads (ev_oUsh x y) (.int (nI (x >>> (y % 32)))) := .int (Nat.lt_of_le_of_lt (Nat.shiftRight_le x _) h1)
theorem ev_oNeg_v {ka : ev_KA} {ads : List Nat} {x : Nat} (h1 : x < 4294967296) : ev_v ka ads (ev_oNeg x) (.int (-(nI x))) := by rw [ev_negI h1]; exact .int (Nat.mod_lt _ (by decide))
theorem ev_oI2c_v {ka : ev_KA} {ads : List Nat} {x : Nat} : ev_v ka ads (ev_oI2c x) (.int (nI (x % 65536))) := .int (Nat.lt_trans (Nat.mod_lt _ (by decide)) (by decide))
theorem ev_b8_lt (x : Nat) : ev_b8 x < 4294967296 := by
  unfold ev_b8
  cases (x % 256).blt 128 <;> simp only [cond_true, cond_false] <;> omega
theorem ev_b8_v {ka : ev_KA} {ads : List Nat} (x : Nat) : ev_v ka ads (ev_b8 x) (.int (nI (ev_b8 x))) := .int (ev_b8_lt x)
theorem ev_oI2l_v {ka : ev_KA} {ads : List Nat} {x : Nat} (h1 : x < 4294967296) : ev_v ka ads (ev_oI2l x) (.long (lN (bif x.blt 2147483648 then x else x + 18446744069414584320))) := by
  refine .long ?_
  cases hq : x.blt 2147483648
  · simp only [cond_false]; omega
  · simp only [cond_true]; omega
theorem ev_oAddL_v {ka : ev_KA} {ads : List Nat} (x y : Nat) : ev_v ka ads (ev_oAddL x y) (.long (lN x + lN y)) := by rw [ev_addL]; exact .long (Nat.mod_lt _ (by decide))
theorem ev_oSubL_v {ka : ev_KA} {ads : List Nat} {x y : Nat} (h1 : x < 18446744073709551616) (h2 : y < 18446744073709551616) : ev_v ka ads (ev_oSubL x y) (.long (lN x - lN y)) := by rw [ev_subL h1 h2]; exact .long (Nat.mod_lt _ (by decide))
theorem ev_oMulL_v {ka : ev_KA} {ads : List Nat} (x y : Nat) : ev_v ka ads (ev_oMulL x y) (.long (lN x * lN y)) := by rw [ev_mulL]; exact .long (Nat.mod_lt _ (by decide))
theorem ev_oAndL_v {ka : ev_KA} {ads : List Nat} {x y : Nat} (h1 : x < 18446744073709551616) (h2 : y < 18446744073709551616) : ev_v ka ads (ev_oAndL x y) (.long (lN x &&& lN y)) := by rw [ev_andL h1 h2]; exact .long (Nat.lt_of_le_of_lt Nat.and_le_left h1)
theorem ev_oXorL_v {ka : ev_KA} {ads : List Nat} {x y : Nat} (h1 : x < 18446744073709551616) (h2 : y < 18446744073709551616) : ev_v ka ads (ev_oXorL x y) (.long (lN x ^^^ lN y)) := by rw [ev_xorL h1 h2]; exact .long (Nat.xor_lt_two_pow (n := 64) h1 h2)
theorem ev_oCmpL_v {ka : ev_KA} {ads : List Nat} {x y : Nat} (h1 : x < 18446744073709551616) (h2 : y < 18446744073709551616) : ev_v ka ads (ev_oCmpL x y) (.int (lg_cmp (lN x) (lN y))) := by
  rw [ev_cmpL h1 h2]
  refine .int ?_
  unfold ev_oCmpL
  cases (ev_sl y).blt (ev_sl x) <;> cases x.beq y <;> decide
theorem ev_oL2i_v {ka : ev_KA} {ads : List Nat} (x : Nat) : ev_v ka ads (ev_oL2i x) (.int (nI ((x - 18446744073709551616) % 4294967296))) := .int (Nat.mod_lt _ (by decide))
theorem ev_oUshL_v {ka : ev_KA} {ads : List Nat} {x y : Nat} (h1 : x - 18446744073709551616 < 18446744073709551616) : ev_v ka ads (ev_oUshL x y) (.long (lN ((x - 18446744073709551616) >>> (y % 64)))) := .long (Nat.lt_of_le_of_lt (Nat.shiftRight_le _ _) h1)
theorem ev_oLc_v {ka : ev_KA} {ads : List Nat} (n : Fin 2) : ev_v ka ads (ev_oLc n.val) (.long (lN n.val)) := .long (Nat.lt_trans n.isLt (by decide))
def ev_pI (x : Nat) (pc a : Nat) (L r : List Nat) (b : Bool) : Option ev_F := bif ev_isI x then some (bif b then a else pc + 3, L, r) else none
def ev_if (c : Jvm.ClassFile.Cond) (x : Nat) : Bool := match c with
  | .eq => Nat.beq x 0
  | .ne => !(Nat.beq x 0)
  | .lt => Nat.blt (ev_s x) 2147483648
  | .ge => Nat.ble 2147483648 (ev_s x)
  | .gt => Nat.blt 2147483648 (ev_s x)
  | .le => Nat.ble (ev_s x) 2147483648
def ev_ic (c : Jvm.ClassFile.Cond) (x y : Nat) : Bool := match c with
  | .eq => Nat.beq x y
  | .ne => !(Nat.beq x y)
  | .lt => Nat.blt (ev_s x) (ev_s y)
  | .ge => Nat.ble (ev_s y) (ev_s x)
  | .gt => Nat.blt (ev_s y) (ev_s x)
  | .le => Nat.ble (ev_s x) (ev_s y)
/-- a constant that an instruction brings, as a signed number of 32 bits -/
def ev_cst (n : Int) : Nat := (n % 4294967296).toNat
/-- an int as a signed number -/
def ev_si (x : Nat) : Int := (ev_s x : Int) - 2147483648
theorem ev_toS {x : Nat} (hx : x < 4294967296) : (nI x).toInt = ev_si x := ev_toI hx
def ev_sw (pc : Nat) (off : Int) (L r : List Nat) : Option ev_F := bif decide (0 ≤ (pc : Int) + off) then some (((pc : Int) + off).toNat, L, r) else none
def ev_ts2 (z dflt lo hi : Int) (offs : Array Int) (pc : Nat) (L r : List Nat) : Option ev_F :=
  bif decide (z < lo) || decide (hi < z) then ev_sw pc dflt L r
  else match offs[(z - lo).toNat]? with
    | some off => ev_sw pc off L r
    | none => none
def ev_ts (dflt lo hi : Int) (offs : Array Int) (pc : Nat) (L st : List Nat) : Option ev_F := match st with
  | x :: r => bif ev_isI x then ev_ts2 (ev_si x) dflt lo hi offs pc L r else none
  | [] => none
def ev_stA (i : Instr) (a pc : Nat) (L st : List Nat) : Option ev_F := match i with
  | .iload n => ev_ldI 2 n pc L st
  | .iload_n k => ev_ldI 1 k.val pc L st
  | .lload n => ev_ldL 2 n pc L st
  | .lload_n k => ev_ldL 1 k.val pc L st
  | .aload n => ev_ldR 2 n pc L st
  | .aload_n k => ev_ldR 1 k.val pc L st
  | .istore n => ev_stI 2 n pc L st
  | .istore_n k => ev_stI 1 k.val pc L st
  | .lstore n => ev_stL 2 n pc L st
  | .lstore_n k => ev_stL 1 k.val pc L st
  | .astore n => ev_stR 2 n pc L st
  | .astore_n k => ev_stR 1 k.val pc L st
  | .iconst n => bif decide (Int32.ofInt n = nI a) && ev_isI a then some (pc + 1, L, a :: st) else none
  | .bipush n => bif decide ((Int8.ofInt n).toInt32 = nI a) && ev_isI a then some (pc + 2, L, a :: st) else none
  | .sipush n => bif decide ((Int16.ofInt n).toInt32 = nI a) && ev_isI a then some (pc + 3, L, a :: st) else none
  | .lconst n => some (pc + 1, L, ev_oLc n.val :: st)
  | .iadd => ev_binI pc L st ev_oAdd
  | .isub => ev_binI pc L st ev_oSub
  | .imul => ev_binI pc L st ev_oMul
  | .iand => ev_binI pc L st ev_oAnd
  | .ior => ev_binI pc L st ev_oOr
  | .ixor => ev_binI pc L st ev_oXor
  | .iushr => ev_binI pc L st ev_oUsh
  | .ineg => ev_unI pc L st ev_oNeg
  | .i2b => ev_unI pc L st ev_b8
  | .i2c => ev_unI pc L st ev_oI2c
  | .i2l => ev_unI pc L st ev_oI2l
  | .l2i => match st with
    | x :: r => bif ev_isL x then some (pc + 1, L, ev_oL2i x :: r) else none
    | _ => none
  | .ladd => ev_binL pc L st ev_oAddL
  | .lsub => ev_binL pc L st ev_oSubL
  | .lmul => ev_binL pc L st ev_oMulL
  | .land => ev_binL pc L st ev_oAndL
  | .lxor => ev_binL pc L st ev_oXorL
  | .lcmp => ev_binL pc L st ev_oCmpL
  | .lushr => match st with
    | y :: x :: r => bif ev_isI y && ev_isL x then some (pc + 1, L, ev_oUshL x y :: r) else none
    | _ => none
  | .dup => match st with
    | x :: r => bif ev_isL x then none else some (pc + 1, L, x :: x :: r)
    | _ => none
  | .dup_x1 => match st with
    | x :: y :: r => bif ev_isL x || ev_isL y then none else some (pc + 1, L, x :: y :: x :: r)
    | _ => none
  | .dup2 => match st with
    | x :: r => bif ev_isL x then some (pc + 1, L, x :: x :: r) else match r with
      | y :: r2 => bif ev_isL y then none else some (pc + 1, L, x :: y :: x :: y :: r2)
      | [] => none
    | _ => none
  | .pop => match st with
    | x :: r => bif ev_isL x then none else some (pc + 1, L, r)
    | _ => none
  | .iinc n k => match L[n]? with
    | some x => bif ev_isI x && Nat.blt n L.length && decide (nI a = Int32.ofInt k) then some (pc + 3, ev_set1 L n (ev_oAdd x a), st) else none
    | none => none
  | .goto off => bif decide ((pc : Int) + off = (a : Int)) then some (a, L, st) else none
  | .ifCond c off => match st with
    | x :: r => bif decide ((pc : Int) + off = (a : Int)) then ev_pI x pc a L r (ev_if c x) else none
    | _ => none
  | .if_icmp c off => match st with
    | y :: x :: r => bif decide ((pc : Int) + off = (a : Int)) && ev_isI y then ev_pI x pc a L r (ev_ic c x y) else none
    | _ => none
  | .ifnull off => match st with
    | x :: r => bif decide ((pc : Int) + off = (a : Int)) then (bif ev_isN x then some (a, L, r) else bif ev_isR x then some (pc + 3, L, r) else none) else none
    | _ => none
  | .ifnonnull off => match st with
    | x :: r => bif decide ((pc : Int) + off = (a : Int)) then (bif ev_isR x then some (a, L, r) else bif ev_isN x then some (pc + 3, L, r) else none) else none
    | _ => none
  | .tableswitch dflt lo hi offs => ev_ts dflt lo hi offs pc L st
  | _ => none
end
section
/-! ===== 03: the evaluator's frame instructions are the machine's ===== -/
def ev_len (i : Instr) (n0 : Nat) : Nat := match i with
  | .iload _ | .lload _ | .aload _ | .istore _ | .lstore _ | .astore _ | .bipush _ | .ldc _ | .newarray _ => 2
  | .tableswitch _ _ _ _ | .lookupswitch _ _ => n0
  | .sipush _ | .iinc _ _ | .goto _ | .ifCond _ _ | .if_icmp _ _ | .ifnull _ | .ifnonnull _ | .ldc_w _ | .ldc2_w _ | .getfield _ | .putfield _ | .getstatic _ | .new _ | .anewarray _ | .invokevirtual _ | .invokespecial _ | .invokestatic _ | .checkcast _ => 3
  | _ => 1
theorem ev_bI_ok {ka : ev_KA} {ads : List Nat} {pc : Nat} {L st : List Nat} {f : Nat → Nat → Nat} {pc' : Nat} {L' st' : List Nat} {vs : List Value} (hs : ev_binI pc L st f = some (pc', L', st')) (hS : ev_S ka ads st vs) :
    ∃ x y r vr, vs = .int (nI y) :: .int (nI x) :: vr ∧ x < 4294967296 ∧ y < 4294967296 ∧ pc' = pc + 1 ∧ L' = L ∧ st' = f x y :: r ∧ ev_S ka ads r vr := by
  unfold ev_binI at hs
  split at hs
  · rename_i y x r
    cases hq : (ev_isI y && ev_isI x)
    · rw [hq] at hs; cases hs
    · rw [hq] at hs
      simp only [Bool.and_eq_true] at hq
      simp only [cond_true, Option.some.injEq, Prod.mk.injEq] at hs
      obtain ⟨e1, e2, e3⟩ := hs
      obtain ⟨v1, r1, rfl, h1, h2⟩ := hS.cons
      obtain ⟨v2, r2, rfl, h3, h4⟩ := h2.cons
      obtain ⟨rfl, hy⟩ := h1.i hq.1
      obtain ⟨rfl, hx⟩ := h3.i hq.2
      exact ⟨x, y, r, r2, rfl, hx, hy, e1.symm, e2.symm, e3.symm, h4⟩
  · cases hs
theorem ev_bL_ok {ka : ev_KA} {ads : List Nat} {pc : Nat} {L st : List Nat} {f : Nat → Nat → Nat} {pc' : Nat} {L' st' : List Nat} {vs : List Value} (hs : ev_binL pc L st f = some (pc', L', st')) (hS : ev_S ka ads st vs) :
    ∃ x y r vr, vs = .long (lN y) :: .long (lN x) :: vr ∧ x < 18446744073709551616 ∧ y < 18446744073709551616 ∧ pc' = pc + 1 ∧ L' = L ∧ st' = f x y :: r ∧ ev_S ka ads r vr := by
  unfold ev_binL at hs
  split at hs
  · rename_i y x r
    cases hq : (ev_isL y && ev_isL x)
    · rw [hq] at hs; cases hs
    · rw [hq] at hs
      simp only [Bool.and_eq_true] at hq
      simp only [cond_true, Option.some.injEq, Prod.mk.injEq] at hs
      obtain ⟨e1, e2, e3⟩ := hs
      obtain ⟨v1, r1, rfl, h1, h2⟩ := hS.cons
      obtain ⟨v2, r2, rfl, h3, h4⟩ := h2.cons
      obtain ⟨rfl, hy⟩ := h1.l hq.1
      obtain ⟨rfl, hx⟩ := h3.l hq.2
      exact ⟨_, _, r, r2, rfl, hx, hy, e1.symm, e2.symm, e3.symm, h4⟩
  · cases hs
theorem ev_uI_ok {ka : ev_KA} {ads : List Nat} {pc : Nat} {L st : List Nat} {f : Nat → Nat} {pc' : Nat} {L' st' : List Nat} {vs : List Value} (hs : ev_unI pc L st f = some (pc', L', st')) (hS : ev_S ka ads st vs) :
    ∃ x r vr, vs = .int (nI x) :: vr ∧ x < 4294967296 ∧ pc' = pc + 1 ∧ L' = L ∧ st' = f x :: r ∧ ev_S ka ads r vr := by
  unfold ev_unI at hs
  split at hs
  · rename_i x r
    cases hq : ev_isI x
    · rw [hq] at hs; cases hs
    · rw [hq] at hs
      simp only [cond_true, Option.some.injEq, Prod.mk.injEq] at hs
      obtain ⟨e1, e2, e3⟩ := hs
      obtain ⟨v1, r1, rfl, h1, h2⟩ := hS.cons
      obtain ⟨rfl, hx⟩ := h1.i hq
      exact ⟨x, r, r1, rfl, hx, e1.symm, e2.symm, e3.symm, h2⟩
  · cases hs
theorem ev_ldI_ok {ka : ev_KA} {ads : List Nat} {nL d n pc : Nat} {L st : List Nat} {pc' : Nat} {L' st' : List Nat} {ls : Array Slot} (hs : ev_ldI d n pc L st = some (pc', L', st')) (hL : ev_L ka ads nL L ls) :
    ∃ x, ls[n]? = some (.val (.int (nI x))) ∧ x < 4294967296 ∧ pc' = pc + d ∧ L' = L ∧ st' = x :: st := by
  unfold ev_ldI at hs
  split at hs
  · rename_i x hx0
    cases hq : ev_isI x
    · rw [hq] at hs; cases hs
    · rw [hq] at hs
      simp only [cond_true, Option.some.injEq, Prod.mk.injEq] at hs
      obtain ⟨e1, e2, e3⟩ := hs
      have := ev_isI_s hq
      obtain ⟨v, h1, h2⟩ := hL.get hx0 (by omega)
      obtain ⟨rfl, hx⟩ := h2.i hq
      exact ⟨x, h1, hx, e1.symm, e2.symm, e3.symm⟩
  · cases hs
theorem ev_ldL_ok {ka : ev_KA} {ads : List Nat} {nL d n pc : Nat} {L st : List Nat} {pc' : Nat} {L' st' : List Nat} {ls : Array Slot} (hs : ev_ldL d n pc L st = some (pc', L', st')) (hL : ev_L ka ads nL L ls) :
    ∃ x, ls[n]? = some (.val (.long (lN (x - 18446744073709551616)))) ∧ ev_v ka ads x (.long (lN (x - 18446744073709551616))) ∧ pc' = pc + d ∧ L' = L ∧ st' = x :: st := by
  unfold ev_ldL at hs
  split at hs
  · rename_i x hx0
    cases hq : ev_isL x
    · rw [hq] at hs; cases hs
    · rw [hq] at hs
      simp only [cond_true, Option.some.injEq, Prod.mk.injEq] at hs
      obtain ⟨e1, e2, e3⟩ := hs
      have := ev_isL_s hq
      obtain ⟨v, h1, h2⟩ := hL.get hx0 (by omega)
      obtain ⟨rfl, hx⟩ := h2.l hq
      exact ⟨x, h1, h2, e1.symm, e2.symm, e3.symm⟩
  · cases hs
theorem ev_ldR_ok {ka : ev_KA} {ads : List Nat} {nL d n pc : Nat} {L st : List Nat} {pc' : Nat} {L' st' : List Nat} {ls : Array Slot} (hs : ev_ldR d n pc L st = some (pc', L', st')) (hL : ev_L ka ads nL L ls) :
    ∃ x v, ls[n]? = some (.val v) ∧ ev_v ka ads x v ∧ (v = .null ∨ ∃ q, v = .ref q) ∧ pc' = pc + d ∧ L' = L ∧ st' = x :: st := by
  unfold ev_ldR at hs
  split at hs
  · rename_i x hx0
    cases hq : (ev_isR x || ev_isN x)
    · rw [hq] at hs; cases hs
    · rw [hq] at hs
      simp only [cond_true, Option.some.injEq, Prod.mk.injEq] at hs
      obtain ⟨e1, e2, e3⟩ := hs
      rw [Bool.or_eq_true] at hq
      rcases hq with hq | hq
      · have := ev_isR_s hq
        obtain ⟨v, h1, h2⟩ := hL.get hx0 (by omega)
        obtain ⟨q, _, rfl⟩ := h2.r hq
        exact ⟨x, _, h1, h2, Or.inr ⟨q, rfl⟩, e1.symm, e2.symm, e3.symm⟩
      · have := Nat.eq_of_beq_eq_true hq
        obtain ⟨v, h1, h2⟩ := hL.get hx0 (by omega)
        obtain rfl := h2.n hq
        exact ⟨x, _, h1, h2, Or.inl rfl, e1.symm, e2.symm, e3.symm⟩
  · cases hs
theorem ev_stI_ok {ka : ev_KA} {ads : List Nat} {nL d n pc : Nat} {L st : List Nat} {pc' : Nat} {L' st' : List Nat} {vs : List Value} (hlen : L.length = nL) (hs : ev_stI d n pc L st = some (pc', L', st')) (hS : ev_S ka ads st vs) :
    ∃ x r vr, vs = .int (nI x) :: vr ∧ x < 4294967296 ∧ n < nL ∧ pc' = pc + d ∧ L' = ev_set1 L n x ∧ st' = r ∧ ev_S ka ads r vr := by
  unfold ev_stI at hs
  split at hs
  · rename_i x r
    cases hq : (ev_isI x && Nat.blt n L.length)
    · rw [hq] at hs; cases hs
    · rw [hq] at hs
      simp only [Bool.and_eq_true] at hq
      simp only [cond_true, Option.some.injEq, Prod.mk.injEq] at hs
      obtain ⟨e1, e2, e3⟩ := hs
      obtain ⟨v1, r1, rfl, h1, h2⟩ := hS.cons
      obtain ⟨rfl, hx⟩ := h1.i hq.1
      exact ⟨x, r, r1, rfl, hx, hlen ▸ Nat.blt_eq.mp hq.2, e1.symm, e2.symm, e3.symm, h2⟩
  · cases hs
theorem ev_stL_ok {ka : ev_KA} {ads : List Nat} {nL d n pc : Nat} {L st : List Nat} {pc' : Nat} {L' st' : List Nat} {vs : List Value} (hlen : L.length = nL) (hs : ev_stL d n pc L st = some (pc', L', st')) (hS : ev_S ka ads st vs) :
    ∃ x r vr, vs = .long (lN (x - 18446744073709551616)) :: vr ∧ ev_v ka ads x (.long (lN (x - 18446744073709551616))) ∧ n + 1 < nL ∧ pc' = pc + d ∧ L' = ev_set2 L n x ∧ st' = r ∧ ev_S ka ads r vr := by
  unfold ev_stL at hs
  split at hs
  · rename_i x r
    cases hq : (ev_isL x && Nat.blt (n + 1) L.length)
    · rw [hq] at hs; cases hs
    · rw [hq] at hs
      simp only [Bool.and_eq_true] at hq
      simp only [cond_true, Option.some.injEq, Prod.mk.injEq] at hs
      obtain ⟨e1, e2, e3⟩ := hs
      obtain ⟨v1, r1, rfl, h1, h2⟩ := hS.cons
      obtain ⟨rfl, hx⟩ := h1.l hq.1
      exact ⟨x, r, r1, rfl, h1, hlen ▸ Nat.blt_eq.mp hq.2, e1.symm, e2.symm, e3.symm, h2⟩
  · cases hs
theorem ev_stR_ok {ka : ev_KA} {ads : List Nat} {nL d n pc : Nat} {L st : List Nat} {pc' : Nat} {L' st' : List Nat} {vs : List Value} (hlen : L.length = nL) (hs : ev_stR d n pc L st = some (pc', L', st')) (hS : ev_S ka ads st vs) :
    ∃ x v r vr, vs = v :: vr ∧ ev_v ka ads x v ∧ (v = .null ∨ ∃ q, v = .ref q) ∧ n < nL ∧ pc' = pc + d ∧ L' = ev_set1 L n x ∧ st' = r ∧ ev_S ka ads r vr := by
  unfold ev_stR at hs
  split at hs
  · rename_i x r
    cases hq : ((ev_isR x || ev_isN x) && Nat.blt n L.length)
    · rw [hq] at hs; cases hs
    · rw [hq] at hs
      simp only [Bool.and_eq_true, Bool.or_eq_true] at hq
      simp only [cond_true, Option.some.injEq, Prod.mk.injEq] at hs
      obtain ⟨e1, e2, e3⟩ := hs
      obtain ⟨v1, r1, rfl, h1, h2⟩ := hS.cons
      have hn := Nat.blt_eq.mp hq.2
      rcases hq.1 with hq | hq
      · obtain ⟨q, _, rfl⟩ := h1.r hq
        exact ⟨x, _, r, r1, rfl, h1, Or.inr ⟨q, rfl⟩, hlen ▸ hn, e1.symm, e2.symm, e3.symm, h2⟩
      · obtain rfl := h1.n hq
        exact ⟨x, _, r, r1, rfl, h1, Or.inl rfl, hlen ▸ hn, e1.symm, e2.symm, e3.symm, h2⟩
  · cases hs
theorem ev_bif2 {α : Type} {b : Bool} {x y : α} (h : (bif b then some x else none) = some y) : b = true ∧ x = y := by
  cases b
  · cases h
  · exact ⟨rfl, Option.some.inj h⟩
theorem ev_not_blt {a b : Nat} (h : Nat.blt a b = false) : b ≤ a := by
  rcases Nat.lt_or_ge a b with q | q
  · rw [Nat.blt_eq.mpr q] at h; cases h
  · exact q
theorem ev_not_ble {a b : Nat} (h : Nat.ble a b = false) : b < a := by
  rcases Nat.lt_or_ge b a with q | q
  · exact q
  · rw [Nat.ble_eq_true_of_le q] at h; cases h
theorem ev_not_beq {a b : Nat} (h : Nat.beq a b = false) : a ≠ b := by
  intro q
  rw [q, Nat.beq_refl] at h; cases h
theorem ev_s0 : ev_s 0 = 2147483648 := rfl
section EVA
variable {p : Program} {l : Launch} {e : Env} {R : Room} {s : State} {m : MethodId} {args : Array Value} {below : List Frame} {meth : Method} {c : Code} {H : Heap} {locs : List Loc} {cells slots : Nat} {Q : State → Prop} {cc : ByteArray}
theorem ev_if_ok (hx : p.tables.exec = Jvm.exec) (hb : c.code = cc) {cd : Jvm.ClassFile.Cond} {off : Int} {x pc a : Nat} {ls : Array Slot} {vr : List Value} (hd : decode cc pc = .ok (.ifCond cd off, 3)) (ht : (pc : Int) + off = (a : Int)) (hx2 : x < 4294967296)
    (kk : W p l e R s m args below meth c H locs cells slots Q (F0 m (bif ev_if cd x then a else pc + 3) ls vr)) : W p l e R s m args below meth c H locs cells slots Q (F0 m pc ls (.int (nI x) :: vr)) := by
  have z0 : (0 : Int32) = nI 0 := rfl
  cases hq : ev_if cd x <;> rw [hq] at kk <;> simp only [cond_true, cond_false] at kk <;> cases cd <;> simp only [ev_if] at hq
  · exact lv_if_eq hx hb hd ht (fun q => absurd ((ev_eqI hx2 (by decide)).mp (z0 ▸ q)) (ev_not_beq hq)) (fun _ => kk)
  · refine lv_if_ne hx hb hd ht (fun q => absurd ?_ q) (fun _ => kk)
    have hq := Bool.not_eq_false' .. ▸ hq
    rw [Nat.eq_of_beq_eq_true hq]; rfl
  · exact lv_if_lt hx hb hd ht (fun q => by rw [z0, ev_ltI hx2 (by decide)] at q; have := ev_not_blt hq; rw [ev_s0] at q; omega) (fun _ => kk)
  · exact lv_if_ge hx hb hd ht (fun q => by rw [z0, ev_leI (by decide) hx2] at q; have := ev_not_ble hq; rw [ev_s0] at q; omega) (fun _ => kk)
  · exact lv_if_gt hx hb hd ht (fun q => by rw [z0, ev_ltI (by decide) hx2] at q; have := ev_not_blt hq; rw [ev_s0] at q; omega) (fun _ => kk)
  · exact lv_if_le hx hb hd ht (fun q => by rw [z0, ev_leI hx2 (by decide)] at q; have := ev_not_ble hq; rw [ev_s0] at q; omega) (fun _ => kk)
  · refine lv_if_eq hx hb hd ht (fun _ => kk) (fun q => absurd ?_ q)
    rw [Nat.eq_of_beq_eq_true hq]; rfl
  · refine lv_if_ne hx hb hd ht (fun _ => kk) (fun q => absurd ((ev_eqI hx2 (by decide)).mp (z0 ▸ q)) (ev_not_beq ?_))
    simpa using hq
  · exact lv_if_lt hx hb hd ht (fun _ => kk) (fun q => absurd (by rw [z0, ev_ltI hx2 (by decide), ev_s0]; exact Nat.blt_eq.mp hq) q)
  · exact lv_if_ge hx hb hd ht (fun _ => kk) (fun q => absurd (by rw [z0, ev_leI (by decide) hx2, ev_s0]; exact Nat.le_of_ble_eq_true hq) q)
  · exact lv_if_gt hx hb hd ht (fun _ => kk) (fun q => absurd (by rw [z0, ev_ltI (by decide) hx2, ev_s0]; exact Nat.blt_eq.mp hq) q)
  · exact lv_if_le hx hb hd ht (fun _ => kk) (fun q => absurd (by rw [z0, ev_leI hx2 (by decide), ev_s0]; exact Nat.le_of_ble_eq_true hq) q)
theorem ev_ic_ok (hx : p.tables.exec = Jvm.exec) (hb : c.code = cc) {cd : Jvm.ClassFile.Cond} {off : Int} {x y pc a : Nat} {ls : Array Slot} {vr : List Value} (hd : decode cc pc = .ok (.if_icmp cd off, 3)) (ht : (pc : Int) + off = (a : Int)) (hx2 : x < 4294967296) (hy2 : y < 4294967296)
    (kk : W p l e R s m args below meth c H locs cells slots Q (F0 m (bif ev_ic cd x y then a else pc + 3) ls vr)) : W p l e R s m args below meth c H locs cells slots Q (F0 m pc ls (.int (nI y) :: .int (nI x) :: vr)) := by
  cases hq : ev_ic cd x y <;> rw [hq] at kk <;> simp only [cond_true, cond_false] at kk <;> cases cd <;> simp only [ev_ic] at hq
  · exact lv_icmp_eq hx hb hd ht (fun q => absurd ((ev_eqI hx2 hy2).mp q) (ev_not_beq hq)) (fun _ => kk)
  · refine lv_icmp_ne hx hb hd ht (fun q => absurd ?_ q) (fun _ => kk)
    have hq := Bool.not_eq_false' .. ▸ hq
    rw [Nat.eq_of_beq_eq_true hq]
  · exact lv_icmp_lt hx hb hd ht (fun q => by rw [ev_ltI hx2 hy2] at q; have := ev_not_blt hq; omega) (fun _ => kk)
  · exact lv_icmp_ge hx hb hd ht (fun q => by rw [ev_leI hy2 hx2] at q; have := ev_not_ble hq; omega) (fun _ => kk)
  · exact lv_icmp_gt hx hb hd ht (fun q => by rw [ev_ltI hy2 hx2] at q; have := ev_not_blt hq; omega) (fun _ => kk)
  · exact lv_icmp_le hx hb hd ht (fun q => by rw [ev_leI hx2 hy2] at q; have := ev_not_ble hq; omega) (fun _ => kk)
  · refine lv_icmp_eq hx hb hd ht (fun _ => kk) (fun q => absurd ?_ q)
    rw [Nat.eq_of_beq_eq_true hq]
  · refine lv_icmp_ne hx hb hd ht (fun _ => kk) (fun q => absurd ((ev_eqI hx2 hy2).mp q) (ev_not_beq ?_))
    simpa using hq
  · exact lv_icmp_lt hx hb hd ht (fun _ => kk) (fun q => absurd (by rw [ev_ltI hx2 hy2]; exact Nat.blt_eq.mp hq) q)
  · exact lv_icmp_ge hx hb hd ht (fun _ => kk) (fun q => absurd (by rw [ev_leI hy2 hx2]; exact Nat.le_of_ble_eq_true hq) q)
  · exact lv_icmp_gt hx hb hd ht (fun _ => kk) (fun q => absurd (by rw [ev_ltI hy2 hx2]; exact Nat.blt_eq.mp hq) q)
  · exact lv_icmp_le hx hb hd ht (fun _ => kk) (fun q => absurd (by rw [ev_leI hx2 hy2]; exact Nat.le_of_ble_eq_true hq) q)
theorem ev_sw_ok {pc pc' : Nat} {off : Int} {L r L' st' : List Nat} (h : ev_sw pc off L r = some (pc', L', st')) : (pc : Int) + off = (pc' : Int) ∧ L' = L ∧ st' = r := by
  unfold ev_sw at h
  obtain ⟨h1, h2⟩ := ev_bif2 h
  have h1 := of_decide_eq_true h1
  simp only [Prod.mk.injEq] at h2
  obtain ⟨e1, e2, e3⟩ := h2
  exact ⟨by rw [← e1]; exact (Int.toNat_of_nonneg h1).symm, e2.symm, e3.symm⟩
theorem ev_A_iload {ka : ev_KA} (hx : p.tables.exec = Jvm.exec) (hb : c.code = cc) {n : Nat} {n0 a pc pc' nL : Nat} {L st L' st' ads : List Nat} {ls : Array Slot} {vs : List Value} (hd : decode cc pc = .ok ((.iload n), ev_len (.iload n) n0)) (hs : ev_stA (.iload n) a pc L st = some (pc', L', st')) (hL : ev_L ka ads nL L ls) (hS : ev_S ka ads st vs)
    (kk : ∀ (ls' : Array Slot) (vs' : List Value), ev_L ka ads nL L' ls' → ev_S ka ads st' vs' → W p l e R s m args below meth c H locs cells slots Q (F0 m pc' ls' vs')) : W p l e R s m args below meth c H locs cells slots Q (F0 m pc ls vs) := by
  have hlen := hL.1
  obtain ⟨x, h1, h2, rfl, rfl, rfl⟩ := ev_ldI_ok hs hL
  exact lv_iload hx hb hd h1 (kk _ _ hL ⟨.int h2, hS⟩)
theorem ev_A_iload_n {ka : ev_KA} (hx : p.tables.exec = Jvm.exec) (hb : c.code = cc) {n : Fin 4} {n0 a pc pc' nL : Nat} {L st L' st' ads : List Nat} {ls : Array Slot} {vs : List Value} (hd : decode cc pc = .ok ((.iload_n n), ev_len (.iload_n n) n0)) (hs : ev_stA (.iload_n n) a pc L st = some (pc', L', st')) (hL : ev_L ka ads nL L ls) (hS : ev_S ka ads st vs)
    (kk : ∀ (ls' : Array Slot) (vs' : List Value), ev_L ka ads nL L' ls' → ev_S ka ads st' vs' → W p l e R s m args below meth c H locs cells slots Q (F0 m pc' ls' vs')) : W p l e R s m args below meth c H locs cells slots Q (F0 m pc ls vs) := by
  have hlen := hL.1
  obtain ⟨x, h1, h2, rfl, rfl, rfl⟩ := ev_ldI_ok hs hL
  exact lv_iload_n hx hb hd rfl h1 (kk _ _ hL ⟨.int h2, hS⟩)
theorem ev_A_lload {ka : ev_KA} (hx : p.tables.exec = Jvm.exec) (hb : c.code = cc) {n : Nat} {n0 a pc pc' nL : Nat} {L st L' st' ads : List Nat} {ls : Array Slot} {vs : List Value} (hd : decode cc pc = .ok ((.lload n), ev_len (.lload n) n0)) (hs : ev_stA (.lload n) a pc L st = some (pc', L', st')) (hL : ev_L ka ads nL L ls) (hS : ev_S ka ads st vs)
    (kk : ∀ (ls' : Array Slot) (vs' : List Value), ev_L ka ads nL L' ls' → ev_S ka ads st' vs' → W p l e R s m args below meth c H locs cells slots Q (F0 m pc' ls' vs')) : W p l e R s m args below meth c H locs cells slots Q (F0 m pc ls vs) := by
  have hlen := hL.1
  obtain ⟨x, h1, h2, rfl, rfl, rfl⟩ := ev_ldL_ok hs hL
  exact lv_lload hx hb hd h1 (kk _ _ hL ⟨h2, hS⟩)
theorem ev_A_lload_n {ka : ev_KA} (hx : p.tables.exec = Jvm.exec) (hb : c.code = cc) {n : Fin 4} {n0 a pc pc' nL : Nat} {L st L' st' ads : List Nat} {ls : Array Slot} {vs : List Value} (hd : decode cc pc = .ok ((.lload_n n), ev_len (.lload_n n) n0)) (hs : ev_stA (.lload_n n) a pc L st = some (pc', L', st')) (hL : ev_L ka ads nL L ls) (hS : ev_S ka ads st vs)
    (kk : ∀ (ls' : Array Slot) (vs' : List Value), ev_L ka ads nL L' ls' → ev_S ka ads st' vs' → W p l e R s m args below meth c H locs cells slots Q (F0 m pc' ls' vs')) : W p l e R s m args below meth c H locs cells slots Q (F0 m pc ls vs) := by
  have hlen := hL.1
  obtain ⟨x, h1, h2, rfl, rfl, rfl⟩ := ev_ldL_ok hs hL
  exact lv_lload_n hx hb hd rfl h1 (kk _ _ hL ⟨h2, hS⟩)
theorem ev_A_aload {ka : ev_KA} (hx : p.tables.exec = Jvm.exec) (hb : c.code = cc) {n : Nat} {n0 a pc pc' nL : Nat} {L st L' st' ads : List Nat} {ls : Array Slot} {vs : List Value} (hd : decode cc pc = .ok ((.aload n), ev_len (.aload n) n0)) (hs : ev_stA (.aload n) a pc L st = some (pc', L', st')) (hL : ev_L ka ads nL L ls) (hS : ev_S ka ads st vs)
    (kk : ∀ (ls' : Array Slot) (vs' : List Value), ev_L ka ads nL L' ls' → ev_S ka ads st' vs' → W p l e R s m args below meth c H locs cells slots Q (F0 m pc' ls' vs')) : W p l e R s m args below meth c H locs cells slots Q (F0 m pc ls vs) := by
  have hlen := hL.1
  obtain ⟨x, v, h1, h2, h3, rfl, rfl, rfl⟩ := ev_ldR_ok hs hL
  rcases h3 with rfl | ⟨q, rfl⟩
  · exact lv_aloadN hx hb hd h1 (kk _ _ hL ⟨h2, hS⟩)
  · exact lv_aload hx hb hd h1 (kk _ _ hL ⟨h2, hS⟩)
theorem ev_A_aload_n {ka : ev_KA} (hx : p.tables.exec = Jvm.exec) (hb : c.code = cc) {n : Fin 4} {n0 a pc pc' nL : Nat} {L st L' st' ads : List Nat} {ls : Array Slot} {vs : List Value} (hd : decode cc pc = .ok ((.aload_n n), ev_len (.aload_n n) n0)) (hs : ev_stA (.aload_n n) a pc L st = some (pc', L', st')) (hL : ev_L ka ads nL L ls) (hS : ev_S ka ads st vs)
    (kk : ∀ (ls' : Array Slot) (vs' : List Value), ev_L ka ads nL L' ls' → ev_S ka ads st' vs' → W p l e R s m args below meth c H locs cells slots Q (F0 m pc' ls' vs')) : W p l e R s m args below meth c H locs cells slots Q (F0 m pc ls vs) := by
  have hlen := hL.1
  obtain ⟨x, v, h1, h2, h3, rfl, rfl, rfl⟩ := ev_ldR_ok hs hL
  rcases h3 with rfl | ⟨q, rfl⟩
  · exact lv_aload_nN hx hb hd rfl h1 (kk _ _ hL ⟨h2, hS⟩)
  · exact lv_aload_n hx hb hd rfl h1 (kk _ _ hL ⟨h2, hS⟩)
theorem ev_A_istore {ka : ev_KA} (hx : p.tables.exec = Jvm.exec) (hb : c.code = cc) {n : Nat} {n0 a pc pc' nL : Nat} {L st L' st' ads : List Nat} {ls : Array Slot} {vs : List Value} (hd : decode cc pc = .ok ((.istore n), ev_len (.istore n) n0)) (hs : ev_stA (.istore n) a pc L st = some (pc', L', st')) (hL : ev_L ka ads nL L ls) (hS : ev_S ka ads st vs)
    (kk : ∀ (ls' : Array Slot) (vs' : List Value), ev_L ka ads nL L' ls' → ev_S ka ads st' vs' → W p l e R s m args below meth c H locs cells slots Q (F0 m pc' ls' vs')) : W p l e R s m args below meth c H locs cells slots Q (F0 m pc ls vs) := by
  have hlen := hL.1
  obtain ⟨x, r, vr, rfl, h1, h2, rfl, rfl, rfl, h3⟩ := ev_stI_ok hlen hs hS
  obtain ⟨_, lv, h4, h5⟩ := hL
  exact lv_istore hx hb hd h4 h2 rfl (fun ls' h' => kk _ _ (ev_L.set1 hlen h5 (.int h1) h') h3)
theorem ev_A_istore_n {ka : ev_KA} (hx : p.tables.exec = Jvm.exec) (hb : c.code = cc) {n : Fin 4} {n0 a pc pc' nL : Nat} {L st L' st' ads : List Nat} {ls : Array Slot} {vs : List Value} (hd : decode cc pc = .ok ((.istore_n n), ev_len (.istore_n n) n0)) (hs : ev_stA (.istore_n n) a pc L st = some (pc', L', st')) (hL : ev_L ka ads nL L ls) (hS : ev_S ka ads st vs)
    (kk : ∀ (ls' : Array Slot) (vs' : List Value), ev_L ka ads nL L' ls' → ev_S ka ads st' vs' → W p l e R s m args below meth c H locs cells slots Q (F0 m pc' ls' vs')) : W p l e R s m args below meth c H locs cells slots Q (F0 m pc ls vs) := by
  have hlen := hL.1
  obtain ⟨x, r, vr, rfl, h1, h2, rfl, rfl, rfl, h3⟩ := ev_stI_ok hlen hs hS
  obtain ⟨_, lv, h4, h5⟩ := hL
  exact lv_istore_n hx hb hd rfl h4 h2 rfl (fun ls' h' => kk _ _ (ev_L.set1 hlen h5 (.int h1) h') h3)
theorem ev_A_lstore {ka : ev_KA} (hx : p.tables.exec = Jvm.exec) (hb : c.code = cc) {n : Nat} {n0 a pc pc' nL : Nat} {L st L' st' ads : List Nat} {ls : Array Slot} {vs : List Value} (hd : decode cc pc = .ok ((.lstore n), ev_len (.lstore n) n0)) (hs : ev_stA (.lstore n) a pc L st = some (pc', L', st')) (hL : ev_L ka ads nL L ls) (hS : ev_S ka ads st vs)
    (kk : ∀ (ls' : Array Slot) (vs' : List Value), ev_L ka ads nL L' ls' → ev_S ka ads st' vs' → W p l e R s m args below meth c H locs cells slots Q (F0 m pc' ls' vs')) : W p l e R s m args below meth c H locs cells slots Q (F0 m pc ls vs) := by
  have hlen := hL.1
  obtain ⟨x, r, vr, rfl, h1, h2, rfl, rfl, rfl, h3⟩ := ev_stL_ok hlen hs hS
  obtain ⟨_, lv, h4, h5⟩ := hL
  exact lv_lstore hx hb hd h4 h2 rfl (fun ls' h' => kk _ _ (ev_L.set2 hlen h5 h1 h') h3)
theorem ev_A_lstore_n {ka : ev_KA} (hx : p.tables.exec = Jvm.exec) (hb : c.code = cc) {n : Fin 4} {n0 a pc pc' nL : Nat} {L st L' st' ads : List Nat} {ls : Array Slot} {vs : List Value} (hd : decode cc pc = .ok ((.lstore_n n), ev_len (.lstore_n n) n0)) (hs : ev_stA (.lstore_n n) a pc L st = some (pc', L', st')) (hL : ev_L ka ads nL L ls) (hS : ev_S ka ads st vs)
    (kk : ∀ (ls' : Array Slot) (vs' : List Value), ev_L ka ads nL L' ls' → ev_S ka ads st' vs' → W p l e R s m args below meth c H locs cells slots Q (F0 m pc' ls' vs')) : W p l e R s m args below meth c H locs cells slots Q (F0 m pc ls vs) := by
  have hlen := hL.1
  obtain ⟨x, r, vr, rfl, h1, h2, rfl, rfl, rfl, h3⟩ := ev_stL_ok hlen hs hS
  obtain ⟨_, lv, h4, h5⟩ := hL
  exact lv_lstore_n hx hb hd rfl h4 h2 rfl (fun ls' h' => kk _ _ (ev_L.set2 hlen h5 h1 h') h3)
theorem ev_A_astore {ka : ev_KA} (hx : p.tables.exec = Jvm.exec) (hb : c.code = cc) {n : Nat} {n0 a pc pc' nL : Nat} {L st L' st' ads : List Nat} {ls : Array Slot} {vs : List Value} (hd : decode cc pc = .ok ((.astore n), ev_len (.astore n) n0)) (hs : ev_stA (.astore n) a pc L st = some (pc', L', st')) (hL : ev_L ka ads nL L ls) (hS : ev_S ka ads st vs)
    (kk : ∀ (ls' : Array Slot) (vs' : List Value), ev_L ka ads nL L' ls' → ev_S ka ads st' vs' → W p l e R s m args below meth c H locs cells slots Q (F0 m pc' ls' vs')) : W p l e R s m args below meth c H locs cells slots Q (F0 m pc ls vs) := by
  have hlen := hL.1
  obtain ⟨x, v, r, vr, rfl, h1, h6, h2, rfl, rfl, rfl, h3⟩ := ev_stR_ok hlen hs hS
  obtain ⟨_, lv, h4, h5⟩ := hL
  rcases h6 with rfl | ⟨q, rfl⟩
  · exact lv_astoreN hx hb hd h4 h2 rfl (fun ls' h' => kk _ _ (ev_L.set1 hlen h5 h1 h') h3)
  · exact lv_astore hx hb hd h4 h2 rfl (fun ls' h' => kk _ _ (ev_L.set1 hlen h5 h1 h') h3)
theorem ev_A_astore_n {ka : ev_KA} (hx : p.tables.exec = Jvm.exec) (hb : c.code = cc) {n : Fin 4} {n0 a pc pc' nL : Nat} {L st L' st' ads : List Nat} {ls : Array Slot} {vs : List Value} (hd : decode cc pc = .ok ((.astore_n n), ev_len (.astore_n n) n0)) (hs : ev_stA (.astore_n n) a pc L st = some (pc', L', st')) (hL : ev_L ka ads nL L ls) (hS : ev_S ka ads st vs)
    (kk : ∀ (ls' : Array Slot) (vs' : List Value), ev_L ka ads nL L' ls' → ev_S ka ads st' vs' → W p l e R s m args below meth c H locs cells slots Q (F0 m pc' ls' vs')) : W p l e R s m args below meth c H locs cells slots Q (F0 m pc ls vs) := by
  have hlen := hL.1
  obtain ⟨x, v, r, vr, rfl, h1, h6, h2, rfl, rfl, rfl, h3⟩ := ev_stR_ok hlen hs hS
  obtain ⟨_, lv, h4, h5⟩ := hL
  rcases h6 with rfl | ⟨q, rfl⟩
  · exact lv_astore_nN hx hb hd rfl h4 h2 rfl (fun ls' h' => kk _ _ (ev_L.set1 hlen h5 h1 h') h3)
  · exact lv_astore_n hx hb hd rfl h4 h2 rfl (fun ls' h' => kk _ _ (ev_L.set1 hlen h5 h1 h') h3)
theorem ev_A_iconst {ka : ev_KA} (hx : p.tables.exec = Jvm.exec) (hb : c.code = cc) {n : Int} {n0 a pc pc' nL : Nat} {L st L' st' ads : List Nat} {ls : Array Slot} {vs : List Value} (hd : decode cc pc = .ok ((.iconst n), ev_len (.iconst n) n0)) (hs : ev_stA (.iconst n) a pc L st = some (pc', L', st')) (hL : ev_L ka ads nL L ls) (hS : ev_S ka ads st vs)
    (kk : ∀ (ls' : Array Slot) (vs' : List Value), ev_L ka ads nL L' ls' → ev_S ka ads st' vs' → W p l e R s m args below meth c H locs cells slots Q (F0 m pc' ls' vs')) : W p l e R s m args below meth c H locs cells slots Q (F0 m pc ls vs) := by
  have hlen := hL.1
  obtain ⟨h1, h2⟩ := ev_bif2 hs
  simp only [Bool.and_eq_true, decide_eq_true_eq] at h1
  simp only [Prod.mk.injEq] at h2
  obtain ⟨rfl, rfl, rfl⟩ := h2
  exact lv_iconst hx hb hd h1.1 (kk _ _ hL ⟨.int (ev_isI_s h1.2), hS⟩)
theorem ev_A_bipush {ka : ev_KA} (hx : p.tables.exec = Jvm.exec) (hb : c.code = cc) {n : Int} {n0 a pc pc' nL : Nat} {L st L' st' ads : List Nat} {ls : Array Slot} {vs : List Value} (hd : decode cc pc = .ok ((.bipush n), ev_len (.bipush n) n0)) (hs : ev_stA (.bipush n) a pc L st = some (pc', L', st')) (hL : ev_L ka ads nL L ls) (hS : ev_S ka ads st vs)
    (kk : ∀ (ls' : Array Slot) (vs' : List Value), ev_L ka ads nL L' ls' → ev_S ka ads st' vs' → W p l e R s m args below meth c H locs cells slots Q (F0 m pc' ls' vs')) : W p l e R s m args below meth c H locs cells slots Q (F0 m pc ls vs) := by
  have hlen := hL.1
  obtain ⟨h1, h2⟩ := ev_bif2 hs
  simp only [Bool.and_eq_true, decide_eq_true_eq] at h1
  simp only [Prod.mk.injEq] at h2
  obtain ⟨rfl, rfl, rfl⟩ := h2
  exact lv_bipush hx hb hd h1.1 (kk _ _ hL ⟨.int (ev_isI_s h1.2), hS⟩)
theorem ev_A_sipush {ka : ev_KA} (hx : p.tables.exec = Jvm.exec) (hb : c.code = cc) {n : Int} {n0 a pc pc' nL : Nat} {L st L' st' ads : List Nat} {ls : Array Slot} {vs : List Value} (hd : decode cc pc = .ok ((.sipush n), ev_len (.sipush n) n0)) (hs : ev_stA (.sipush n) a pc L st = some (pc', L', st')) (hL : ev_L ka ads nL L ls) (hS : ev_S ka ads st vs)
    (kk : ∀ (ls' : Array Slot) (vs' : List Value), ev_L ka ads nL L' ls' → ev_S ka ads st' vs' → W p l e R s m args below meth c H locs cells slots Q (F0 m pc' ls' vs')) : W p l e R s m args below meth c H locs cells slots Q (F0 m pc ls vs) := by
  have hlen := hL.1
  obtain ⟨h1, h2⟩ := ev_bif2 hs
  simp only [Bool.and_eq_true, decide_eq_true_eq] at h1
  simp only [Prod.mk.injEq] at h2
  obtain ⟨rfl, rfl, rfl⟩ := h2
  exact lv_sipush hx hb hd h1.1 (kk _ _ hL ⟨.int (ev_isI_s h1.2), hS⟩)
theorem ev_A_lconst {ka : ev_KA} (hx : p.tables.exec = Jvm.exec) (hb : c.code = cc) {n : Fin 2} {n0 a pc pc' nL : Nat} {L st L' st' ads : List Nat} {ls : Array Slot} {vs : List Value} (hd : decode cc pc = .ok ((.lconst n), ev_len (.lconst n) n0)) (hs : ev_stA (.lconst n) a pc L st = some (pc', L', st')) (hL : ev_L ka ads nL L ls) (hS : ev_S ka ads st vs)
    (kk : ∀ (ls' : Array Slot) (vs' : List Value), ev_L ka ads nL L' ls' → ev_S ka ads st' vs' → W p l e R s m args below meth c H locs cells slots Q (F0 m pc' ls' vs')) : W p l e R s m args below meth c H locs cells slots Q (F0 m pc ls vs) := by
  have hlen := hL.1
  simp only [ev_stA, Option.some.injEq, Prod.mk.injEq] at hs
  obtain ⟨rfl, rfl, rfl⟩ := hs
  exact lv_lconst hx hb hd rfl (kk _ _ hL ⟨ev_oLc_v n, hS⟩)
theorem ev_A_iadd {ka : ev_KA} (hx : p.tables.exec = Jvm.exec) (hb : c.code = cc) {n0 a pc pc' nL : Nat} {L st L' st' ads : List Nat} {ls : Array Slot} {vs : List Value} (hd : decode cc pc = .ok (.iadd, ev_len .iadd n0)) (hs : ev_stA .iadd a pc L st = some (pc', L', st')) (hL : ev_L ka ads nL L ls) (hS : ev_S ka ads st vs)
    (kk : ∀ (ls' : Array Slot) (vs' : List Value), ev_L ka ads nL L' ls' → ev_S ka ads st' vs' → W p l e R s m args below meth c H locs cells slots Q (F0 m pc' ls' vs')) : W p l e R s m args below meth c H locs cells slots Q (F0 m pc ls vs) := by
  have hlen := hL.1
  simp only [ev_stA] at hs
  obtain ⟨x, y, r, vr, rfl, h1, h2, rfl, rfl, rfl, h3⟩ := ev_bI_ok hs hS
  exact lv_iadd hx hb hd (kk _ _ hL ⟨ev_oAdd_v x y, h3⟩)
theorem ev_A_isub {ka : ev_KA} (hx : p.tables.exec = Jvm.exec) (hb : c.code = cc) {n0 a pc pc' nL : Nat} {L st L' st' ads : List Nat} {ls : Array Slot} {vs : List Value} (hd : decode cc pc = .ok (.isub, ev_len .isub n0)) (hs : ev_stA .isub a pc L st = some (pc', L', st')) (hL : ev_L ka ads nL L ls) (hS : ev_S ka ads st vs)
    (kk : ∀ (ls' : Array Slot) (vs' : List Value), ev_L ka ads nL L' ls' → ev_S ka ads st' vs' → W p l e R s m args below meth c H locs cells slots Q (F0 m pc' ls' vs')) : W p l e R s m args below meth c H locs cells slots Q (F0 m pc ls vs) := by
  have hlen := hL.1
  simp only [ev_stA] at hs
  obtain ⟨x, y, r, vr, rfl, h1, h2, rfl, rfl, rfl, h3⟩ := ev_bI_ok hs hS
  exact lv_isub hx hb hd (kk _ _ hL ⟨ev_oSub_v h1 h2, h3⟩)
theorem ev_A_imul {ka : ev_KA} (hx : p.tables.exec = Jvm.exec) (hb : c.code = cc) {n0 a pc pc' nL : Nat} {L st L' st' ads : List Nat} {ls : Array Slot} {vs : List Value} (hd : decode cc pc = .ok (.imul, ev_len .imul n0)) (hs : ev_stA .imul a pc L st = some (pc', L', st')) (hL : ev_L ka ads nL L ls) (hS : ev_S ka ads st vs)
    (kk : ∀ (ls' : Array Slot) (vs' : List Value), ev_L ka ads nL L' ls' → ev_S ka ads st' vs' → W p l e R s m args below meth c H locs cells slots Q (F0 m pc' ls' vs')) : W p l e R s m args below meth c H locs cells slots Q (F0 m pc ls vs) := by
  have hlen := hL.1
  simp only [ev_stA] at hs
  obtain ⟨x, y, r, vr, rfl, h1, h2, rfl, rfl, rfl, h3⟩ := ev_bI_ok hs hS
  exact lv_imul hx hb hd (kk _ _ hL ⟨ev_oMul_v x y, h3⟩)
theorem ev_A_iand {ka : ev_KA} (hx : p.tables.exec = Jvm.exec) (hb : c.code = cc) {n0 a pc pc' nL : Nat} {L st L' st' ads : List Nat} {ls : Array Slot} {vs : List Value} (hd : decode cc pc = .ok (.iand, ev_len .iand n0)) (hs : ev_stA .iand a pc L st = some (pc', L', st')) (hL : ev_L ka ads nL L ls) (hS : ev_S ka ads st vs)
    (kk : ∀ (ls' : Array Slot) (vs' : List Value), ev_L ka ads nL L' ls' → ev_S ka ads st' vs' → W p l e R s m args below meth c H locs cells slots Q (F0 m pc' ls' vs')) : W p l e R s m args below meth c H locs cells slots Q (F0 m pc ls vs) := by
  have hlen := hL.1
  simp only [ev_stA] at hs
  obtain ⟨x, y, r, vr, rfl, h1, h2, rfl, rfl, rfl, h3⟩ := ev_bI_ok hs hS
  exact lv_iand hx hb hd (kk _ _ hL ⟨ev_oAnd_v h1 h2, h3⟩)
theorem ev_A_ior {ka : ev_KA} (hx : p.tables.exec = Jvm.exec) (hb : c.code = cc) {n0 a pc pc' nL : Nat} {L st L' st' ads : List Nat} {ls : Array Slot} {vs : List Value} (hd : decode cc pc = .ok (.ior, ev_len .ior n0)) (hs : ev_stA .ior a pc L st = some (pc', L', st')) (hL : ev_L ka ads nL L ls) (hS : ev_S ka ads st vs)
    (kk : ∀ (ls' : Array Slot) (vs' : List Value), ev_L ka ads nL L' ls' → ev_S ka ads st' vs' → W p l e R s m args below meth c H locs cells slots Q (F0 m pc' ls' vs')) : W p l e R s m args below meth c H locs cells slots Q (F0 m pc ls vs) := by
  have hlen := hL.1
  simp only [ev_stA] at hs
  obtain ⟨x, y, r, vr, rfl, h1, h2, rfl, rfl, rfl, h3⟩ := ev_bI_ok hs hS
  exact lv_ior hx hb hd (kk _ _ hL ⟨ev_oOr_v h1 h2, h3⟩)
theorem ev_A_ixor {ka : ev_KA} (hx : p.tables.exec = Jvm.exec) (hb : c.code = cc) {n0 a pc pc' nL : Nat} {L st L' st' ads : List Nat} {ls : Array Slot} {vs : List Value} (hd : decode cc pc = .ok (.ixor, ev_len .ixor n0)) (hs : ev_stA .ixor a pc L st = some (pc', L', st')) (hL : ev_L ka ads nL L ls) (hS : ev_S ka ads st vs)
    (kk : ∀ (ls' : Array Slot) (vs' : List Value), ev_L ka ads nL L' ls' → ev_S ka ads st' vs' → W p l e R s m args below meth c H locs cells slots Q (F0 m pc' ls' vs')) : W p l e R s m args below meth c H locs cells slots Q (F0 m pc ls vs) := by
  have hlen := hL.1
  simp only [ev_stA] at hs
  obtain ⟨x, y, r, vr, rfl, h1, h2, rfl, rfl, rfl, h3⟩ := ev_bI_ok hs hS
  exact lv_ixor hx hb hd (kk _ _ hL ⟨ev_oXor_v h1 h2, h3⟩)
theorem ev_A_iushr {ka : ev_KA} (hx : p.tables.exec = Jvm.exec) (hb : c.code = cc) {n0 a pc pc' nL : Nat} {L st L' st' ads : List Nat} {ls : Array Slot} {vs : List Value} (hd : decode cc pc = .ok (.iushr, ev_len .iushr n0)) (hs : ev_stA .iushr a pc L st = some (pc', L', st')) (hL : ev_L ka ads nL L ls) (hS : ev_S ka ads st vs)
    (kk : ∀ (ls' : Array Slot) (vs' : List Value), ev_L ka ads nL L' ls' → ev_S ka ads st' vs' → W p l e R s m args below meth c H locs cells slots Q (F0 m pc' ls' vs')) : W p l e R s m args below meth c H locs cells slots Q (F0 m pc ls vs) := by
  have hlen := hL.1
  simp only [ev_stA] at hs
  obtain ⟨x, y, r, vr, rfl, h1, h2, rfl, rfl, rfl, h3⟩ := ev_bI_ok hs hS
  exact lv_iushr hx hb hd (ev_ushrI h1 h2) (kk _ _ hL ⟨ev_oUsh_v h1, h3⟩)
theorem ev_A_ineg {ka : ev_KA} (hx : p.tables.exec = Jvm.exec) (hb : c.code = cc) {n0 a pc pc' nL : Nat} {L st L' st' ads : List Nat} {ls : Array Slot} {vs : List Value} (hd : decode cc pc = .ok (.ineg, ev_len .ineg n0)) (hs : ev_stA .ineg a pc L st = some (pc', L', st')) (hL : ev_L ka ads nL L ls) (hS : ev_S ka ads st vs)
    (kk : ∀ (ls' : Array Slot) (vs' : List Value), ev_L ka ads nL L' ls' → ev_S ka ads st' vs' → W p l e R s m args below meth c H locs cells slots Q (F0 m pc' ls' vs')) : W p l e R s m args below meth c H locs cells slots Q (F0 m pc ls vs) := by
  have hlen := hL.1
  simp only [ev_stA] at hs
  obtain ⟨x, r, vr, rfl, h1, rfl, rfl, rfl, h3⟩ := ev_uI_ok hs hS
  exact lv_ineg hx hb hd (kk _ _ hL ⟨ev_oNeg_v h1, h3⟩)
theorem ev_A_i2b {ka : ev_KA} (hx : p.tables.exec = Jvm.exec) (hb : c.code = cc) {n0 a pc pc' nL : Nat} {L st L' st' ads : List Nat} {ls : Array Slot} {vs : List Value} (hd : decode cc pc = .ok (.i2b, ev_len .i2b n0)) (hs : ev_stA .i2b a pc L st = some (pc', L', st')) (hL : ev_L ka ads nL L ls) (hS : ev_S ka ads st vs)
    (kk : ∀ (ls' : Array Slot) (vs' : List Value), ev_L ka ads nL L' ls' → ev_S ka ads st' vs' → W p l e R s m args below meth c H locs cells slots Q (F0 m pc' ls' vs')) : W p l e R s m args below meth c H locs cells slots Q (F0 m pc ls vs) := by
  have hlen := hL.1
  simp only [ev_stA] at hs
  obtain ⟨x, r, vr, rfl, h1, rfl, rfl, rfl, h3⟩ := ev_uI_ok hs hS
  exact lv_i2b hx hb hd (ev_i2b h1) (kk _ _ hL ⟨ev_b8_v x, h3⟩)
theorem ev_A_i2c {ka : ev_KA} (hx : p.tables.exec = Jvm.exec) (hb : c.code = cc) {n0 a pc pc' nL : Nat} {L st L' st' ads : List Nat} {ls : Array Slot} {vs : List Value} (hd : decode cc pc = .ok (.i2c, ev_len .i2c n0)) (hs : ev_stA .i2c a pc L st = some (pc', L', st')) (hL : ev_L ka ads nL L ls) (hS : ev_S ka ads st vs)
    (kk : ∀ (ls' : Array Slot) (vs' : List Value), ev_L ka ads nL L' ls' → ev_S ka ads st' vs' → W p l e R s m args below meth c H locs cells slots Q (F0 m pc' ls' vs')) : W p l e R s m args below meth c H locs cells slots Q (F0 m pc ls vs) := by
  have hlen := hL.1
  simp only [ev_stA] at hs
  obtain ⟨x, r, vr, rfl, h1, rfl, rfl, rfl, h3⟩ := ev_uI_ok hs hS
  exact lv_i2c hx hb hd (ev_i2c h1) (kk _ _ hL ⟨ev_oI2c_v, h3⟩)
theorem ev_A_i2l {ka : ev_KA} (hx : p.tables.exec = Jvm.exec) (hb : c.code = cc) {n0 a pc pc' nL : Nat} {L st L' st' ads : List Nat} {ls : Array Slot} {vs : List Value} (hd : decode cc pc = .ok (.i2l, ev_len .i2l n0)) (hs : ev_stA .i2l a pc L st = some (pc', L', st')) (hL : ev_L ka ads nL L ls) (hS : ev_S ka ads st vs)
    (kk : ∀ (ls' : Array Slot) (vs' : List Value), ev_L ka ads nL L' ls' → ev_S ka ads st' vs' → W p l e R s m args below meth c H locs cells slots Q (F0 m pc' ls' vs')) : W p l e R s m args below meth c H locs cells slots Q (F0 m pc ls vs) := by
  have hlen := hL.1
  simp only [ev_stA] at hs
  obtain ⟨x, r, vr, rfl, h1, rfl, rfl, rfl, h3⟩ := ev_uI_ok hs hS
  exact lv_i2l hx hb hd (ev_i2l h1) (kk _ _ hL ⟨ev_oI2l_v h1, h3⟩)
theorem ev_A_l2i {ka : ev_KA} (hx : p.tables.exec = Jvm.exec) (hb : c.code = cc) {n0 a pc pc' nL : Nat} {L st L' st' ads : List Nat} {ls : Array Slot} {vs : List Value} (hd : decode cc pc = .ok (.l2i, ev_len .l2i n0)) (hs : ev_stA .l2i a pc L st = some (pc', L', st')) (hL : ev_L ka ads nL L ls) (hS : ev_S ka ads st vs)
    (kk : ∀ (ls' : Array Slot) (vs' : List Value), ev_L ka ads nL L' ls' → ev_S ka ads st' vs' → W p l e R s m args below meth c H locs cells slots Q (F0 m pc' ls' vs')) : W p l e R s m args below meth c H locs cells slots Q (F0 m pc ls vs) := by
  have hlen := hL.1
  simp only [ev_stA] at hs
  split at hs
  · obtain ⟨h1, h2⟩ := ev_bif2 hs
    simp only [Prod.mk.injEq] at h2
    obtain ⟨rfl, rfl, rfl⟩ := h2
    obtain ⟨v1, r1, rfl, h3, h4⟩ := hS.cons
    obtain ⟨rfl, h5⟩ := h3.l h1
    exact lv_l2i hx hb hd (ev_l2i _) (kk _ _ hL ⟨ev_oL2i_v _, h4⟩)
  · cases hs
theorem ev_A_ladd {ka : ev_KA} (hx : p.tables.exec = Jvm.exec) (hb : c.code = cc) {n0 a pc pc' nL : Nat} {L st L' st' ads : List Nat} {ls : Array Slot} {vs : List Value} (hd : decode cc pc = .ok (.ladd, ev_len .ladd n0)) (hs : ev_stA .ladd a pc L st = some (pc', L', st')) (hL : ev_L ka ads nL L ls) (hS : ev_S ka ads st vs)
    (kk : ∀ (ls' : Array Slot) (vs' : List Value), ev_L ka ads nL L' ls' → ev_S ka ads st' vs' → W p l e R s m args below meth c H locs cells slots Q (F0 m pc' ls' vs')) : W p l e R s m args below meth c H locs cells slots Q (F0 m pc ls vs) := by
  have hlen := hL.1
  simp only [ev_stA] at hs
  obtain ⟨x, y, r, vr, rfl, h1, h2, rfl, rfl, rfl, h3⟩ := ev_bL_ok hs hS
  exact lv_ladd hx hb hd (kk _ _ hL ⟨ev_oAddL_v x y, h3⟩)
theorem ev_A_lsub {ka : ev_KA} (hx : p.tables.exec = Jvm.exec) (hb : c.code = cc) {n0 a pc pc' nL : Nat} {L st L' st' ads : List Nat} {ls : Array Slot} {vs : List Value} (hd : decode cc pc = .ok (.lsub, ev_len .lsub n0)) (hs : ev_stA .lsub a pc L st = some (pc', L', st')) (hL : ev_L ka ads nL L ls) (hS : ev_S ka ads st vs)
    (kk : ∀ (ls' : Array Slot) (vs' : List Value), ev_L ka ads nL L' ls' → ev_S ka ads st' vs' → W p l e R s m args below meth c H locs cells slots Q (F0 m pc' ls' vs')) : W p l e R s m args below meth c H locs cells slots Q (F0 m pc ls vs) := by
  have hlen := hL.1
  simp only [ev_stA] at hs
  obtain ⟨x, y, r, vr, rfl, h1, h2, rfl, rfl, rfl, h3⟩ := ev_bL_ok hs hS
  exact lv_lsub hx hb hd (kk _ _ hL ⟨ev_oSubL_v h1 h2, h3⟩)
theorem ev_A_lmul {ka : ev_KA} (hx : p.tables.exec = Jvm.exec) (hb : c.code = cc) {n0 a pc pc' nL : Nat} {L st L' st' ads : List Nat} {ls : Array Slot} {vs : List Value} (hd : decode cc pc = .ok (.lmul, ev_len .lmul n0)) (hs : ev_stA .lmul a pc L st = some (pc', L', st')) (hL : ev_L ka ads nL L ls) (hS : ev_S ka ads st vs)
    (kk : ∀ (ls' : Array Slot) (vs' : List Value), ev_L ka ads nL L' ls' → ev_S ka ads st' vs' → W p l e R s m args below meth c H locs cells slots Q (F0 m pc' ls' vs')) : W p l e R s m args below meth c H locs cells slots Q (F0 m pc ls vs) := by
  have hlen := hL.1
  simp only [ev_stA] at hs
  obtain ⟨x, y, r, vr, rfl, h1, h2, rfl, rfl, rfl, h3⟩ := ev_bL_ok hs hS
  exact lv_lmul hx hb hd (kk _ _ hL ⟨ev_oMulL_v x y, h3⟩)
theorem ev_A_land {ka : ev_KA} (hx : p.tables.exec = Jvm.exec) (hb : c.code = cc) {n0 a pc pc' nL : Nat} {L st L' st' ads : List Nat} {ls : Array Slot} {vs : List Value} (hd : decode cc pc = .ok (.land, ev_len .land n0)) (hs : ev_stA .land a pc L st = some (pc', L', st')) (hL : ev_L ka ads nL L ls) (hS : ev_S ka ads st vs)
    (kk : ∀ (ls' : Array Slot) (vs' : List Value), ev_L ka ads nL L' ls' → ev_S ka ads st' vs' → W p l e R s m args below meth c H locs cells slots Q (F0 m pc' ls' vs')) : W p l e R s m args below meth c H locs cells slots Q (F0 m pc ls vs) := by
  have hlen := hL.1
  simp only [ev_stA] at hs
  obtain ⟨x, y, r, vr, rfl, h1, h2, rfl, rfl, rfl, h3⟩ := ev_bL_ok hs hS
  exact lv_land hx hb hd (kk _ _ hL ⟨ev_oAndL_v h1 h2, h3⟩)
theorem ev_A_lxor {ka : ev_KA} (hx : p.tables.exec = Jvm.exec) (hb : c.code = cc) {n0 a pc pc' nL : Nat} {L st L' st' ads : List Nat} {ls : Array Slot} {vs : List Value} (hd : decode cc pc = .ok (.lxor, ev_len .lxor n0)) (hs : ev_stA .lxor a pc L st = some (pc', L', st')) (hL : ev_L ka ads nL L ls) (hS : ev_S ka ads st vs)
    (kk : ∀ (ls' : Array Slot) (vs' : List Value), ev_L ka ads nL L' ls' → ev_S ka ads st' vs' → W p l e R s m args below meth c H locs cells slots Q (F0 m pc' ls' vs')) : W p l e R s m args below meth c H locs cells slots Q (F0 m pc ls vs) := by
  have hlen := hL.1
  simp only [ev_stA] at hs
  obtain ⟨x, y, r, vr, rfl, h1, h2, rfl, rfl, rfl, h3⟩ := ev_bL_ok hs hS
  exact lv_lxor hx hb hd (kk _ _ hL ⟨ev_oXorL_v h1 h2, h3⟩)
theorem ev_A_lcmp {ka : ev_KA} (hx : p.tables.exec = Jvm.exec) (hb : c.code = cc) {n0 a pc pc' nL : Nat} {L st L' st' ads : List Nat} {ls : Array Slot} {vs : List Value} (hd : decode cc pc = .ok (.lcmp, ev_len .lcmp n0)) (hs : ev_stA .lcmp a pc L st = some (pc', L', st')) (hL : ev_L ka ads nL L ls) (hS : ev_S ka ads st vs)
    (kk : ∀ (ls' : Array Slot) (vs' : List Value), ev_L ka ads nL L' ls' → ev_S ka ads st' vs' → W p l e R s m args below meth c H locs cells slots Q (F0 m pc' ls' vs')) : W p l e R s m args below meth c H locs cells slots Q (F0 m pc ls vs) := by
  have hlen := hL.1
  simp only [ev_stA] at hs
  obtain ⟨x, y, r, vr, rfl, h1, h2, rfl, rfl, rfl, h3⟩ := ev_bL_ok hs hS
  exact W.lcmp hx hb hd (kk _ _ hL ⟨ev_oCmpL_v h1 h2, h3⟩)
theorem ev_A_lushr {ka : ev_KA} (hx : p.tables.exec = Jvm.exec) (hb : c.code = cc) {n0 a pc pc' nL : Nat} {L st L' st' ads : List Nat} {ls : Array Slot} {vs : List Value} (hd : decode cc pc = .ok (.lushr, ev_len .lushr n0)) (hs : ev_stA .lushr a pc L st = some (pc', L', st')) (hL : ev_L ka ads nL L ls) (hS : ev_S ka ads st vs)
    (kk : ∀ (ls' : Array Slot) (vs' : List Value), ev_L ka ads nL L' ls' → ev_S ka ads st' vs' → W p l e R s m args below meth c H locs cells slots Q (F0 m pc' ls' vs')) : W p l e R s m args below meth c H locs cells slots Q (F0 m pc ls vs) := by
  have hlen := hL.1
  simp only [ev_stA] at hs
  split at hs
  · obtain ⟨h1, h2⟩ := ev_bif2 hs
    simp only [Bool.and_eq_true] at h1
    simp only [Prod.mk.injEq] at h2
    obtain ⟨rfl, rfl, rfl⟩ := h2
    obtain ⟨v1, r1, rfl, h3, h4⟩ := hS.cons
    obtain ⟨rfl, h5⟩ := h3.i h1.1
    obtain ⟨v2, r2, rfl, h6, h7⟩ := h4.cons
    obtain ⟨rfl, h8⟩ := h6.l h1.2
    exact lv_lushr hx hb hd (ev_ushrL h8 h5) (kk _ _ hL ⟨ev_oUshL_v h8, h7⟩)
  · cases hs
theorem ev_A_dup {ka : ev_KA} (hx : p.tables.exec = Jvm.exec) (hb : c.code = cc) {n0 a pc pc' nL : Nat} {L st L' st' ads : List Nat} {ls : Array Slot} {vs : List Value} (hd : decode cc pc = .ok (.dup, ev_len .dup n0)) (hs : ev_stA .dup a pc L st = some (pc', L', st')) (hL : ev_L ka ads nL L ls) (hS : ev_S ka ads st vs)
    (kk : ∀ (ls' : Array Slot) (vs' : List Value), ev_L ka ads nL L' ls' → ev_S ka ads st' vs' → W p l e R s m args below meth c H locs cells slots Q (F0 m pc' ls' vs')) : W p l e R s m args below meth c H locs cells slots Q (F0 m pc ls vs) := by
  have hlen := hL.1
  simp only [ev_stA] at hs
  split at hs
  · rename_i x r
    cases hq : ev_isL x
    · rw [hq] at hs
      simp only [cond_false, Option.some.injEq, Prod.mk.injEq] at hs
      obtain ⟨rfl, rfl, rfl⟩ := hs
      obtain ⟨v1, r1, rfl, h3, h4⟩ := hS.cons
      exact lv_dup hx hb hd (h3.cat1 hq) (kk _ _ hL ⟨h3, h3, h4⟩)
    · rw [hq] at hs; cases hs
  · cases hs
theorem ev_A_dup_x1 {ka : ev_KA} (hx : p.tables.exec = Jvm.exec) (hb : c.code = cc) {n0 a pc pc' nL : Nat} {L st L' st' ads : List Nat} {ls : Array Slot} {vs : List Value} (hd : decode cc pc = .ok (.dup_x1, ev_len .dup_x1 n0)) (hs : ev_stA .dup_x1 a pc L st = some (pc', L', st')) (hL : ev_L ka ads nL L ls) (hS : ev_S ka ads st vs)
    (kk : ∀ (ls' : Array Slot) (vs' : List Value), ev_L ka ads nL L' ls' → ev_S ka ads st' vs' → W p l e R s m args below meth c H locs cells slots Q (F0 m pc' ls' vs')) : W p l e R s m args below meth c H locs cells slots Q (F0 m pc ls vs) := by
  have hlen := hL.1
  simp only [ev_stA] at hs
  split at hs
  · rename_i x y r
    cases hq : (ev_isL x || ev_isL y)
    · rw [hq] at hs
      simp only [cond_false, Option.some.injEq, Prod.mk.injEq] at hs
      obtain ⟨rfl, rfl, rfl⟩ := hs
      simp only [Bool.or_eq_false_iff] at hq
      obtain ⟨v1, r1, rfl, h3, h4⟩ := hS.cons
      obtain ⟨v2, r2, rfl, h5, h6⟩ := h4.cons
      exact lv_dup_x1 hx hb hd (h3.cat1 hq.1) (h5.cat1 hq.2) (kk _ _ hL ⟨h3, h5, h3, h6⟩)
    · rw [hq] at hs; cases hs
  · cases hs
theorem ev_A_dup2 {ka : ev_KA} (hx : p.tables.exec = Jvm.exec) (hb : c.code = cc) {n0 a pc pc' nL : Nat} {L st L' st' ads : List Nat} {ls : Array Slot} {vs : List Value} (hd : decode cc pc = .ok (.dup2, ev_len .dup2 n0)) (hs : ev_stA .dup2 a pc L st = some (pc', L', st')) (hL : ev_L ka ads nL L ls) (hS : ev_S ka ads st vs)
    (kk : ∀ (ls' : Array Slot) (vs' : List Value), ev_L ka ads nL L' ls' → ev_S ka ads st' vs' → W p l e R s m args below meth c H locs cells slots Q (F0 m pc' ls' vs')) : W p l e R s m args below meth c H locs cells slots Q (F0 m pc ls vs) := by
  have hlen := hL.1
  simp only [ev_stA] at hs
  split at hs
  · rename_i x r
    cases hq : ev_isL x
    · rw [hq] at hs
      simp only [cond_false] at hs
      split at hs
      · rename_i y r2
        cases hq2 : ev_isL y
        · rw [hq2] at hs
          simp only [cond_false, Option.some.injEq, Prod.mk.injEq] at hs
          obtain ⟨rfl, rfl, rfl⟩ := hs
          obtain ⟨v1, r1, rfl, h3, h4⟩ := hS.cons
          obtain ⟨v2, r2, rfl, h5, h6⟩ := h4.cons
          exact lv_dup2_11 hx hb hd (h3.cat1 hq) (h5.cat1 hq2) (kk _ _ hL ⟨h3, h5, h3, h5, h6⟩)
        · rw [hq2] at hs; cases hs
      · cases hs
    · rw [hq] at hs
      simp only [cond_true, Option.some.injEq, Prod.mk.injEq] at hs
      obtain ⟨rfl, rfl, rfl⟩ := hs
      obtain ⟨v1, r1, rfl, h3, h4⟩ := hS.cons
      obtain ⟨rfl, h5⟩ := h3.l hq
      exact lv_dup2_2 hx hb hd rfl (kk _ _ hL ⟨h3, h3, h4⟩)
  · cases hs
theorem ev_A_pop {ka : ev_KA} (hx : p.tables.exec = Jvm.exec) (hb : c.code = cc) {n0 a pc pc' nL : Nat} {L st L' st' ads : List Nat} {ls : Array Slot} {vs : List Value} (hd : decode cc pc = .ok (.pop, ev_len .pop n0)) (hs : ev_stA .pop a pc L st = some (pc', L', st')) (hL : ev_L ka ads nL L ls) (hS : ev_S ka ads st vs)
    (kk : ∀ (ls' : Array Slot) (vs' : List Value), ev_L ka ads nL L' ls' → ev_S ka ads st' vs' → W p l e R s m args below meth c H locs cells slots Q (F0 m pc' ls' vs')) : W p l e R s m args below meth c H locs cells slots Q (F0 m pc ls vs) := by
  have hlen := hL.1
  simp only [ev_stA] at hs
  split at hs
  · rename_i x r
    cases hq : ev_isL x
    · rw [hq] at hs
      simp only [cond_false, Option.some.injEq, Prod.mk.injEq] at hs
      obtain ⟨rfl, rfl, rfl⟩ := hs
      obtain ⟨v1, r1, rfl, h3, h4⟩ := hS.cons
      exact lv_pop hx hb hd (h3.cat1 hq) (kk _ _ hL h4)
    · rw [hq] at hs; cases hs
  · cases hs
theorem ev_A_iinc {ka : ev_KA} (hx : p.tables.exec = Jvm.exec) (hb : c.code = cc) {n : Nat} {k : Int} {n0 a pc pc' nL : Nat} {L st L' st' ads : List Nat} {ls : Array Slot} {vs : List Value} (hd : decode cc pc = .ok ((.iinc n k), ev_len (.iinc n k) n0)) (hs : ev_stA (.iinc n k) a pc L st = some (pc', L', st')) (hL : ev_L ka ads nL L ls) (hS : ev_S ka ads st vs)
    (kk : ∀ (ls' : Array Slot) (vs' : List Value), ev_L ka ads nL L' ls' → ev_S ka ads st' vs' → W p l e R s m args below meth c H locs cells slots Q (F0 m pc' ls' vs')) : W p l e R s m args below meth c H locs cells slots Q (F0 m pc ls vs) := by
  have hlen := hL.1
  simp only [ev_stA] at hs
  split at hs
  · rename_i x hx0
    obtain ⟨h1, h2⟩ := ev_bif2 hs
    simp only [Bool.and_eq_true, decide_eq_true_eq] at h1
    simp only [Prod.mk.injEq] at h2
    obtain ⟨rfl, rfl, rfl⟩ := h2
    obtain ⟨⟨h1, h6⟩, h7⟩ := h1
    obtain ⟨_, lv, h4, h5⟩ := hL
    have h8 := ev_isI_s h1
    rcases h5 n x hx0 with h | ⟨v, h9, h10⟩
    · omega
    · obtain ⟨rfl, _⟩ := h10.i h1
      obtain ⟨k0, hk0⟩ := List.getElem?_of_mem h9
      exact lv_iinc hx hb hd h4 hk0 (v := nI x + nI a) (by rw [← h7]) (hlen ▸ Nat.blt_eq.mp h6) rfl (fun ls' h' => kk _ _ (ev_L.set1 hlen h5 (ev_oAdd_v x a) h') hS)
  · cases hs
theorem ev_A_goto {ka : ev_KA} (hx : p.tables.exec = Jvm.exec) (hb : c.code = cc) {off : Int} {n0 a pc pc' nL : Nat} {L st L' st' ads : List Nat} {ls : Array Slot} {vs : List Value} (hd : decode cc pc = .ok ((.goto off), ev_len (.goto off) n0)) (hs : ev_stA (.goto off) a pc L st = some (pc', L', st')) (hL : ev_L ka ads nL L ls) (hS : ev_S ka ads st vs)
    (kk : ∀ (ls' : Array Slot) (vs' : List Value), ev_L ka ads nL L' ls' → ev_S ka ads st' vs' → W p l e R s m args below meth c H locs cells slots Q (F0 m pc' ls' vs')) : W p l e R s m args below meth c H locs cells slots Q (F0 m pc ls vs) := by
  have hlen := hL.1
  obtain ⟨h1, h2⟩ := ev_bif2 hs
  have h1 := of_decide_eq_true h1
  simp only [Prod.mk.injEq] at h2
  obtain ⟨rfl, rfl, rfl⟩ := h2
  exact lv_goto hx hb hd h1 (kk _ _ hL hS)
theorem ev_A_ifCond {ka : ev_KA} (hx : p.tables.exec = Jvm.exec) (hb : c.code = cc) {cd : Jvm.ClassFile.Cond} {off : Int} {n0 a pc pc' nL : Nat} {L st L' st' ads : List Nat} {ls : Array Slot} {vs : List Value} (hd : decode cc pc = .ok ((.ifCond cd off), ev_len (.ifCond cd off) n0)) (hs : ev_stA (.ifCond cd off) a pc L st = some (pc', L', st')) (hL : ev_L ka ads nL L ls) (hS : ev_S ka ads st vs)
    (kk : ∀ (ls' : Array Slot) (vs' : List Value), ev_L ka ads nL L' ls' → ev_S ka ads st' vs' → W p l e R s m args below meth c H locs cells slots Q (F0 m pc' ls' vs')) : W p l e R s m args below meth c H locs cells slots Q (F0 m pc ls vs) := by
  have hlen := hL.1
  simp only [ev_stA] at hs
  split at hs
  · rename_i x r
    cases hq : decide ((pc : Int) + off = (a : Int))
    · rw [hq] at hs; cases hs
    · rw [hq] at hs
      simp only [cond_true, ev_pI] at hs
      obtain ⟨h1, h2⟩ := ev_bif2 hs
      simp only [Prod.mk.injEq] at h2
      obtain ⟨rfl, rfl, rfl⟩ := h2
      obtain ⟨v1, r1, rfl, h3, h4⟩ := hS.cons
      obtain ⟨rfl, h5⟩ := h3.i h1
      exact ev_if_ok hx hb hd (of_decide_eq_true hq) h5 (kk _ _ hL h4)
  · cases hs
theorem ev_A_if_icmp {ka : ev_KA} (hx : p.tables.exec = Jvm.exec) (hb : c.code = cc) {cd : Jvm.ClassFile.Cond} {off : Int} {n0 a pc pc' nL : Nat} {L st L' st' ads : List Nat} {ls : Array Slot} {vs : List Value} (hd : decode cc pc = .ok ((.if_icmp cd off), ev_len (.if_icmp cd off) n0)) (hs : ev_stA (.if_icmp cd off) a pc L st = some (pc', L', st')) (hL : ev_L ka ads nL L ls) (hS : ev_S ka ads st vs)
    (kk : ∀ (ls' : Array Slot) (vs' : List Value), ev_L ka ads nL L' ls' → ev_S ka ads st' vs' → W p l e R s m args below meth c H locs cells slots Q (F0 m pc' ls' vs')) : W p l e R s m args below meth c H locs cells slots Q (F0 m pc ls vs) := by
  have hlen := hL.1
  simp only [ev_stA] at hs
  split at hs
  · rename_i y x r
    cases hq : (decide ((pc : Int) + off = (a : Int)) && ev_isI y)
    · rw [hq] at hs; cases hs
    · rw [hq] at hs
      simp only [cond_true, ev_pI] at hs
      simp only [Bool.and_eq_true] at hq
      obtain ⟨h1, h2⟩ := ev_bif2 hs
      simp only [Prod.mk.injEq] at h2
      obtain ⟨rfl, rfl, rfl⟩ := h2
      obtain ⟨v1, r1, rfl, h3, h4⟩ := hS.cons
      obtain ⟨rfl, h5⟩ := h3.i hq.2
      obtain ⟨v2, r2, rfl, h6, h7⟩ := h4.cons
      obtain ⟨rfl, h8⟩ := h6.i h1
      exact ev_ic_ok hx hb hd (of_decide_eq_true hq.1) h8 h5 (kk _ _ hL h7)
  · cases hs
theorem ev_A_ifnull {ka : ev_KA} (hx : p.tables.exec = Jvm.exec) (hb : c.code = cc) {off : Int} {n0 a pc pc' nL : Nat} {L st L' st' ads : List Nat} {ls : Array Slot} {vs : List Value} (hd : decode cc pc = .ok ((.ifnull off), ev_len (.ifnull off) n0)) (hs : ev_stA (.ifnull off) a pc L st = some (pc', L', st')) (hL : ev_L ka ads nL L ls) (hS : ev_S ka ads st vs)
    (kk : ∀ (ls' : Array Slot) (vs' : List Value), ev_L ka ads nL L' ls' → ev_S ka ads st' vs' → W p l e R s m args below meth c H locs cells slots Q (F0 m pc' ls' vs')) : W p l e R s m args below meth c H locs cells slots Q (F0 m pc ls vs) := by
  have hlen := hL.1
  simp only [ev_stA] at hs
  split at hs
  · rename_i x r
    cases hq : decide ((pc : Int) + off = (a : Int))
    · rw [hq] at hs; cases hs
    · rw [hq] at hs
      simp only [cond_true] at hs
      obtain ⟨v1, r1, rfl, h3, h4⟩ := hS.cons
      cases hn : ev_isN x
      · rw [hn] at hs
        simp only [cond_false] at hs
        obtain ⟨h1, h2⟩ := ev_bif2 hs
        simp only [Prod.mk.injEq] at h2
        obtain ⟨rfl, rfl, rfl⟩ := h2
        obtain ⟨q, _, rfl⟩ := h3.r h1
        exact lv_ifnull hx hb hd (kk _ _ hL h4)
      · rw [hn] at hs
        simp only [cond_true, Option.some.injEq, Prod.mk.injEq] at hs
        obtain ⟨rfl, rfl, rfl⟩ := hs
        obtain rfl := h3.n hn
        exact lv_ifnullN hx hb hd (of_decide_eq_true hq) (kk _ _ hL h4)
  · cases hs
theorem ev_A_ifnonnull {ka : ev_KA} (hx : p.tables.exec = Jvm.exec) (hb : c.code = cc) {off : Int} {n0 a pc pc' nL : Nat} {L st L' st' ads : List Nat} {ls : Array Slot} {vs : List Value} (hd : decode cc pc = .ok ((.ifnonnull off), ev_len (.ifnonnull off) n0)) (hs : ev_stA (.ifnonnull off) a pc L st = some (pc', L', st')) (hL : ev_L ka ads nL L ls) (hS : ev_S ka ads st vs)
    (kk : ∀ (ls' : Array Slot) (vs' : List Value), ev_L ka ads nL L' ls' → ev_S ka ads st' vs' → W p l e R s m args below meth c H locs cells slots Q (F0 m pc' ls' vs')) : W p l e R s m args below meth c H locs cells slots Q (F0 m pc ls vs) := by
  have hlen := hL.1
  simp only [ev_stA] at hs
  split at hs
  · rename_i x r
    cases hq : decide ((pc : Int) + off = (a : Int))
    · rw [hq] at hs; cases hs
    · rw [hq] at hs
      simp only [cond_true] at hs
      obtain ⟨v1, r1, rfl, h3, h4⟩ := hS.cons
      cases hn : ev_isR x
      · rw [hn] at hs
        simp only [cond_false] at hs
        obtain ⟨h1, h2⟩ := ev_bif2 hs
        simp only [Prod.mk.injEq] at h2
        obtain ⟨rfl, rfl, rfl⟩ := h2
        obtain rfl := h3.n h1
        exact lv_ifnonnullN hx hb hd (kk _ _ hL h4)
      · rw [hn] at hs
        simp only [cond_true, Option.some.injEq, Prod.mk.injEq] at hs
        obtain ⟨rfl, rfl, rfl⟩ := hs
        obtain ⟨q, _, rfl⟩ := h3.r hn
        exact lv_ifnonnull hx hb hd (of_decide_eq_true hq) (kk _ _ hL h4)
  · cases hs
end EVA
end
section
section EVA
variable {p : Program} {l : Launch} {e : Env} {R : Room} {s : State} {m : MethodId} {args : Array Value} {below : List Frame} {meth : Method} {c : Code} {H : Heap} {locs : List Loc} {cells slots : Nat} {Q : State → Prop} {cc : ByteArray}
theorem ev_ts2A {z dflt lo hi : Int} {offs : Array Int} {pc pc' : Nat} {L r L' st' : List Nat} (hs : ev_ts2 z dflt lo hi offs pc L r = some (pc', L', st')) :
    ((z < lo ∨ hi < z) ∧ ev_sw pc dflt L r = some (pc', L', st')) ∨ (¬ z < lo ∧ ¬ hi < z ∧ ∃ off, offs[(z - lo).toNat]? = some off ∧ ev_sw pc off L r = some (pc', L', st')) := by
  unfold ev_ts2 at hs
  cases hq2 : (decide (z < lo) || decide (hi < z))
  · rw [hq2, cond_false] at hs
    simp only [Bool.or_eq_false_iff, decide_eq_false_iff_not] at hq2
    right
    refine ⟨hq2.1, hq2.2, ?_⟩
    split at hs
    · rename_i off hoff
      exact ⟨off, hoff, hs⟩
    · cases hs
  · rw [hq2, cond_true] at hs
    simp only [Bool.or_eq_true, decide_eq_true_eq] at hq2
    exact Or.inl ⟨hq2, hs⟩
theorem ev_tsA {dflt lo hi : Int} {offs : Array Int} {pc pc' : Nat} {L st L' st' : List Nat} (hs : ev_ts dflt lo hi offs pc L st = some (pc', L', st')) :
    ∃ x r, st = x :: r ∧ ev_isI x = true ∧ ev_ts2 (ev_si x) dflt lo hi offs pc L r = some (pc', L', st') := by
  unfold ev_ts at hs
  split at hs
  · rename_i x r
    cases hq : ev_isI x
    · rw [hq, cond_false] at hs; cases hs
    · rw [hq, cond_true] at hs
      exact ⟨x, r, rfl, hq, hs⟩
  · cases hs
theorem ev_A_tableswitch {ka : ev_KA} (hx : p.tables.exec = Jvm.exec) (hb : c.code = cc) {dflt : Int} {lo : Int} {hi : Int} {offs : Array Int} {n0 a pc pc' nL : Nat} {L st L' st' ads : List Nat} {ls : Array Slot} {vs : List Value} (hd : decode cc pc = .ok ((.tableswitch dflt lo hi offs), ev_len (.tableswitch dflt lo hi offs) n0)) (hs : ev_stA (.tableswitch dflt lo hi offs) a pc L st = some (pc', L', st')) (hL : ev_L ka ads nL L ls) (hS : ev_S ka ads st vs)
    (kk : ∀ (ls' : Array Slot) (vs' : List Value), ev_L ka ads nL L' ls' → ev_S ka ads st' vs' → W p l e R s m args below meth c H locs cells slots Q (F0 m pc' ls' vs')) : W p l e R s m args below meth c H locs cells slots Q (F0 m pc ls vs) := by
  have hlen := hL.1
  simp only [ev_stA] at hs
  obtain ⟨x, r, rfl, hq, hs⟩ := ev_tsA hs
  obtain ⟨v1, r1, rfl, h3, h4⟩ := hS.cons
  obtain ⟨rfl, h5⟩ := h3.i hq
  have e5 := ev_toS h5
  generalize ev_si x = z at hs e5
  rcases ev_ts2A hs with ⟨hq2, hs⟩ | ⟨h6, h7, off, hoff, hs⟩
  · obtain ⟨h1, rfl, rfl⟩ := ev_sw_ok hs
    exact lv_tableOut hx hb hd (by rw [e5]; exact hq2) h1 (kk _ _ hL h4)
  · obtain ⟨h1, rfl, rfl⟩ := ev_sw_ok hs
    exact lv_tableIn hx hb hd (by rw [e5]; exact h6) (by rw [e5]; exact h7) (by rw [e5]; exact hoff) h1 (kk _ _ hL h4)
set_option maxHeartbeats 4000000 in
theorem ev_A_ok {ka : ev_KA} (hx : p.tables.exec = Jvm.exec) (hb : c.code = cc) {i : Instr} {n0 a pc pc' nL : Nat} {L st L' st' ads : List Nat} {ls : Array Slot} {vs : List Value} (hd : decode cc pc = .ok (i, ev_len i n0)) (hs : ev_stA i a pc L st = some (pc', L', st')) (hL : ev_L ka ads nL L ls) (hS : ev_S ka ads st vs)
    (kk : ∀ (ls' : Array Slot) (vs' : List Value), ev_L ka ads nL L' ls' → ev_S ka ads st' vs' → W p l e R s m args below meth c H locs cells slots Q (F0 m pc' ls' vs')) : W p l e R s m args below meth c H locs cells slots Q (F0 m pc ls vs) := by
  cases i with
  | iload n => exact ev_A_iload hx hb hd hs hL hS kk
  | iload_n n => exact ev_A_iload_n hx hb hd hs hL hS kk
  | lload n => exact ev_A_lload hx hb hd hs hL hS kk
  | lload_n n => exact ev_A_lload_n hx hb hd hs hL hS kk
  | aload n => exact ev_A_aload hx hb hd hs hL hS kk
  | aload_n n => exact ev_A_aload_n hx hb hd hs hL hS kk
  | istore n => exact ev_A_istore hx hb hd hs hL hS kk
  | istore_n n => exact ev_A_istore_n hx hb hd hs hL hS kk
  | lstore n => exact ev_A_lstore hx hb hd hs hL hS kk
  | lstore_n n => exact ev_A_lstore_n hx hb hd hs hL hS kk
  | astore n => exact ev_A_astore hx hb hd hs hL hS kk
  | astore_n n => exact ev_A_astore_n hx hb hd hs hL hS kk
  | iconst n => exact ev_A_iconst hx hb hd hs hL hS kk
  | bipush n => exact ev_A_bipush hx hb hd hs hL hS kk
  | sipush n => exact ev_A_sipush hx hb hd hs hL hS kk
  | lconst n => exact ev_A_lconst hx hb hd hs hL hS kk
  | iadd => exact ev_A_iadd hx hb hd hs hL hS kk
  | isub => exact ev_A_isub hx hb hd hs hL hS kk
  | imul => exact ev_A_imul hx hb hd hs hL hS kk
  | iand => exact ev_A_iand hx hb hd hs hL hS kk
  | ior => exact ev_A_ior hx hb hd hs hL hS kk
  | ixor => exact ev_A_ixor hx hb hd hs hL hS kk
  | iushr => exact ev_A_iushr hx hb hd hs hL hS kk
  | ineg => exact ev_A_ineg hx hb hd hs hL hS kk
  | i2b => exact ev_A_i2b hx hb hd hs hL hS kk
  | i2c => exact ev_A_i2c hx hb hd hs hL hS kk
  | i2l => exact ev_A_i2l hx hb hd hs hL hS kk
  | l2i => exact ev_A_l2i hx hb hd hs hL hS kk
  | ladd => exact ev_A_ladd hx hb hd hs hL hS kk
  | lsub => exact ev_A_lsub hx hb hd hs hL hS kk
  | lmul => exact ev_A_lmul hx hb hd hs hL hS kk
  | land => exact ev_A_land hx hb hd hs hL hS kk
  | lxor => exact ev_A_lxor hx hb hd hs hL hS kk
  | lcmp => exact ev_A_lcmp hx hb hd hs hL hS kk
  | lushr => exact ev_A_lushr hx hb hd hs hL hS kk
  | dup => exact ev_A_dup hx hb hd hs hL hS kk
  | dup_x1 => exact ev_A_dup_x1 hx hb hd hs hL hS kk
  | dup2 => exact ev_A_dup2 hx hb hd hs hL hS kk
  | pop => exact ev_A_pop hx hb hd hs hL hS kk
  | iinc n k => exact ev_A_iinc hx hb hd hs hL hS kk
  | goto off => exact ev_A_goto hx hb hd hs hL hS kk
  | ifCond cd off => exact ev_A_ifCond hx hb hd hs hL hS kk
  | if_icmp cd off => exact ev_A_if_icmp hx hb hd hs hL hS kk
  | ifnull off => exact ev_A_ifnull hx hb hd hs hL hS kk
  | ifnonnull off => exact ev_A_ifnonnull hx hb hd hs hL hS kk
  | tableswitch dflt lo hi offs => exact ev_A_tableswitch hx hb hd hs hL hS kk
  | _ => cases hs
end EVA
end
section
/-! ===== 04: the evaluator's cells; the instructions that read and write them ===== -/
def ev_ty (oc : String) (t : Nat) : FieldType := match t with
  | 0 => .int
  | 1 => .byte
  | 2 => .boolean
  | 3 => .char
  | 10 => .long
  | _ => .object oc
/-- a cell of kind below 1000 is an object of that class; 1000 + t an array of ints, bytes, booleans, chars; 1010 of longs; 1020 of references (0: null) -/
def ev_E (ka : ev_KA) (oc : String) (tys : List (ClassId × FieldType)) (ads : List Nat) (x : ev_C) (e : va_E) : Prop :=
  (x.1 < 1000 ∧ ∃ fs : List Value, e = .inr (x.1, fs) ∧ fs.length = x.2.1 ∧ ∀ j, j < x.2.1 → ∃ v, fs[j]? = some v ∧ ev_v ka ads (ev_at x.2.2 j) v) ∨
  (1000 ≤ x.1 ∧ x.1 < 1010 ∧ ∃ (t0 : Nat) (cA : ClassId) (f : Nat → Int32), tys[t0]? = some (cA, ev_ty oc (x.1 - 1000)) ∧ e = .inl (cA, x.2.1, .inl f) ∧ ∀ j, j < x.2.1 → ev_at x.2.2 j < 4294967296 ∧ f j = nI (ev_at x.2.2 j)) ∨
  (x.1 = 1010 ∧ ∃ (t0 : Nat) (cA : ClassId) (f : Nat → Int64), tys[t0]? = some (cA, .long) ∧ e = .inl (cA, x.2.1, .inr (.inl f)) ∧ ∀ j, j < x.2.1 → ev_at x.2.2 j < 18446744073709551616 ∧ f j = lN (ev_at x.2.2 j)) ∨
  (x.1 = 1020 ∧ ∃ (t0 : Nat) (cA : ClassId) (f : Nat → Option Nat), tys[t0]? = some (cA, .object oc) ∧ e = .inl (cA, x.2.1, .inr (.inr (.inr (.inr f)))) ∧ ∀ j, j < x.2.1 → (ev_at x.2.2 j = 0 ∧ f j = none) ∨ (ev_isR (ev_at x.2.2 j) = true ∧ ev_v ka ads (ev_at x.2.2 j) (va_rf (f j))))
theorem ev_E.mono {ka : ev_KA} {oc : String} {tys t2 : List (ClassId × FieldType)} {ads l : List Nat} {x : ev_C} {e : va_E} (h : ev_E ka oc tys ads x e) : ev_E ka oc (tys ++ t2) (ads ++ l) x e := by
  have up : ∀ {t0 : Nat} {q : ClassId × FieldType}, tys[t0]? = some q → (tys ++ t2)[t0]? = some q := fun {t0 q} h => by
    rw [List.getElem?_append_left (List.getElem?_eq_some_iff.mp h).1]; exact h
  rcases h with ⟨h0, fs, h1, h2, h3⟩ | ⟨h0, h0', t0, cA, f, h1, h2, h3⟩ | ⟨h0, t0, cA, f, h1, h2, h3⟩ | ⟨h0, t0, cA, f, h1, h2, h3⟩
  · refine Or.inl ⟨h0, fs, h1, h2, fun j hj => ?_⟩
    obtain ⟨v, h4, h5⟩ := h3 j hj
    exact ⟨v, h4, h5.mono⟩
  · exact Or.inr (Or.inl ⟨h0, h0', t0, cA, f, up h1, h2, h3⟩)
  · exact Or.inr (Or.inr (Or.inl ⟨h0, t0, cA, f, up h1, h2, h3⟩))
  · refine Or.inr (Or.inr (Or.inr ⟨h0, t0, cA, f, up h1, h2, fun j hj => ?_⟩))
    rcases h3 j hj with h | ⟨h, h'⟩
    · exact Or.inl h
    · exact Or.inr ⟨h, h'.mono⟩
def ev_M (ka : ev_KA) (oc : String) (tys : List (ClassId × FieldType)) (ads : List Nat) (h : ev_H) (ws : va_W) : Prop :=
  ads.length = h.length ∧ ws.length = h.length ∧ ∀ (k : Nat) (x : ev_C), h[k]? = some x → ∃ (q : Nat) (e : va_E), ads[k]? = some q ∧ ws[k]? = some (q, e) ∧ ev_E ka oc tys ads x e
theorem ev_M.set {ka : ev_KA} {oc : String} {tys : List (ClassId × FieldType)} {ads : List Nat} {h : ev_H} {ws : va_W} {k q : Nat} {x x' : ev_C} {e' : va_E} (hM : ev_M ka oc tys ads h ws) (hk : h[k]? = some x) (hq : ads[k]? = some q) (hE : ev_E ka oc tys ads x' e') : ev_M ka oc tys ads (h.set k x') (ws.set k (q, e')) := by
  obtain ⟨h1, h2, h3⟩ := hM
  have hlt : k < h.length := (List.getElem?_eq_some_iff.mp hk).1
  refine ⟨by rw [List.length_set]; exact h1, by rw [List.length_set, List.length_set]; exact h2, fun j y hy => ?_⟩
  by_cases hj : k = j
  · subst hj
    rw [List.getElem?_set_self hlt] at hy
    cases hy
    exact ⟨q, e', hq, List.getElem?_set_self (h2 ▸ hlt), hE⟩
  · rw [List.getElem?_set_ne hj] at hy
    obtain ⟨q2, e2, g1, g2, g3⟩ := h3 j y hy
    exact ⟨q2, e2, g1, by rw [List.getElem?_set_ne hj]; exact g2, g3⟩
theorem ev_M.push {ka : ev_KA} {oc : String} {tys t2 : List (ClassId × FieldType)} {ads : List Nat} {h : ev_H} {ws : va_W} {q : Nat} {x : ev_C} {e : va_E} (hM : ev_M ka oc tys ads h ws) (hE : ev_E ka oc (tys ++ t2) (ads ++ [q]) x e) : ev_M ka oc (tys ++ t2) (ads ++ [q]) (h ++ [x]) (ws ++ [(q, e)]) := by
  obtain ⟨h1, h2, h3⟩ := hM
  refine ⟨by simp [h1], by simp [h2], fun j y hy => ?_⟩
  by_cases hj : j < h.length
  · rw [List.getElem?_append_left hj] at hy
    obtain ⟨q2, e2, g1, g2, g3⟩ := h3 j y hy
    exact ⟨q2, e2, by rw [List.getElem?_append_left (h1 ▸ hj)]; exact g1, by rw [List.getElem?_append_left (h2 ▸ hj)]; exact g2, g3.mono⟩
  · have hlt := (List.getElem?_eq_some_iff.mp hy).1
    simp at hlt
    have hj2 : j = h.length := by omega
    subst hj2
    simp at hy
    subst hy
    exact ⟨q, e, by rw [← h1]; simp, by rw [← h2]; simp, hE⟩
/-- what the object at a reference holds -/
def ev_o (h : ev_H) (r : Nat) : Option ev_C := bif ev_isR r then h[r - 36893488147419103232]? else none
theorem ev_M.o {ka : ev_KA} {oc : String} {tys : List (ClassId × FieldType)} {ads : List Nat} {h : ev_H} {ws : va_W} {r : Nat} {x : ev_C} {v : Value} (hM : ev_M ka oc tys ads h ws) (ho : ev_o h r = some x) (hv : ev_v ka ads r v) : ∃ q e, h[r - 36893488147419103232]? = some x ∧ v = .ref q ∧ ads[r - 36893488147419103232]? = some q ∧ ws[r - 36893488147419103232]? = some (q, e) ∧ ev_E ka oc tys ads x e := by
  unfold ev_o at ho
  cases hr : ev_isR r
  · rw [hr] at ho; cases ho
  · rw [hr] at ho
    simp only [cond_true] at ho
    obtain ⟨q, e, h1, h2, h3⟩ := hM.2.2 _ _ ho
    obtain ⟨q2, h4, h5⟩ := hv.r hr
    rw [h1] at h4
    cases h4
    exact ⟨q, e, ho, h5, h1, h2, h3⟩
/-- may a field of this type take the value? -/
def ev_fit (t v : Nat) : Bool := match t with
  | 0 => ev_isI v
  | 1 => ev_isI v && Nat.beq (ev_b8 v) v
  | 2 => Nat.blt v 2
  | 10 => ev_isL v
  | 20 => ev_isR v || ev_isN v
  | _ => false
def ev_tyc (ty : FieldType) : Nat := match ty with
  | .int => 0
  | .byte => 1
  | .boolean => 2
  | .long => 10
  | .object _ => 20
  | .array _ => 20
  | _ => 99
theorem ev_fits8 : ∀ k, k < 256 → fits .byte (.int (nI (ev_b8 k))) = true := by decide +kernel
theorem ev_b8_mod (x : Nat) : ev_b8 x = ev_b8 (x % 256) := by unfold ev_b8; rw [Nat.mod_mod]
theorem ev_fit_ok {ka : ev_KA} {ads : List Nat} {t x : Nat} {v : Value} {ty : FieldType} (h : ev_fit t x = true) (ht : ev_tyc ty = t) (hv : ev_v ka ads x v) : narrow ty v = v ∧ fits ty v = true := by
  subst ht
  cases ty <;> simp only [ev_tyc, ev_fit] at h
  all_goals first
    | (cases h; done)
    | skip
  all_goals first
    | (obtain ⟨rfl, _⟩ := hv.i h; exact ⟨rfl, rfl⟩)
    | (obtain ⟨rfl, _⟩ := hv.l h; exact ⟨rfl, rfl⟩)
    | (rw [Bool.or_eq_true] at h
       rcases h with h | h
       · obtain ⟨q, _, rfl⟩ := hv.r h; exact ⟨rfl, rfl⟩
       · obtain rfl := hv.n h; exact ⟨rfl, rfl⟩)
    | (simp only [Bool.and_eq_true] at h
       obtain ⟨h1, h2⟩ := h
       obtain ⟨rfl, hx⟩ := hv.i h1
       have h2 := Nat.eq_of_beq_eq_true h2
       have e1 : (nI x).toInt8.toInt32 = nI x := by rw [ev_i2b hx]; show nI (ev_b8 x) = _; rw [h2]
       refine ⟨by show Value.int _ = _; rw [e1], ?_⟩
       rw [← h2, ev_b8_mod]
       exact ev_fits8 _ (Nat.mod_lt _ (by decide)))
    | (have h1 := Nat.blt_eq.mp h
       obtain ⟨rfl, _⟩ := hv.i (show ev_isI x = true from Nat.blt_eq.mpr (by omega))
       rcases (show x = 0 ∨ x = 1 by omega) with rfl | rfl
       · exact ⟨rfl, rfl⟩
       · exact ⟨rfl, rfl⟩)
/-- an array's place -/
def ev_ix (k : Nat) (h : ev_H) (j r : Nat) : Option Nat := match ev_o h r with
  | some x => bif Nat.beq x.1 k && ev_isI j && Nat.blt j x.2.1 && Nat.blt x.2.1 2147483648 then some (ev_at x.2.2 j) else none
  | none => none
/-- a cell's contents changed at a place -/
def ev_wr (k nr : Nat) (h : ev_H) (j r v : Nat) : Option ev_H := match ev_o h r with
  | some x => bif Nat.beq x.1 k && ev_isI j && Nat.blt j x.2.1 && Nat.blt x.2.1 2147483648 && Nat.ble nr (r - 36893488147419103232) then some (h.set (r - 36893488147419103232) (x.1, x.2.1, ev_up x.2.2 j v)) else none
  | none => none
abbrev ev_G : Type := ev_F × ev_H × Nat × Nat
def ev_rdI (k pc : Nat) (L st : List Nat) (h : ev_H) (nc ns : Nat) : Option ev_G := match st with
  | j :: r :: st' => match ev_ix k h j r with
    | some v => some ((pc + 1, L, v :: st'), h, nc, ns)
    | none => none
  | _ => none
/-- a row of booleans on the top? -/
def ev_isZ (h : ev_H) (st : List Nat) : Bool := match st with
  | r :: _ => (match ev_o h r with
    | some x => Nat.beq x.1 1002
    | none => false)
  | [] => false
def ev_stH (nr : Nat) (dfl : Nat → Nat) (i : Instr) (a b t pc : Nat) (L st : List Nat) (h : ev_H) (nc ns : Nat) : Option ev_G := match i with
  | .getfield _ => match st with
    | r :: st' => match ev_o h r with
      | some x => bif Nat.beq x.1 a && Nat.blt b x.2.1 then some ((pc + 3, L, ev_at x.2.2 b :: st'), h, nc, ns) else none
      | none => none
    | _ => none
  | .putfield _ => match st with
    | v :: r :: st' => match ev_o h r with
      | some x => bif Nat.beq x.1 a && Nat.blt b x.2.1 && Nat.ble nr (r - 36893488147419103232) && ev_fit t v then some ((pc + 3, L, st'), h.set (r - 36893488147419103232) (x.1, x.2.1, ev_up x.2.2 b v), nc, ns) else none
      | none => none
    | _ => none
  | .iaload => ev_rdI 1000 pc L st h nc ns
  | .baload => bif ev_isZ h st.tail then ev_rdI 1002 pc L st h nc ns else ev_rdI 1001 pc L st h nc ns
  | .caload => ev_rdI 1003 pc L st h nc ns
  | .laload => match st with
    | j :: r :: st' => match ev_ix 1010 h j r with
      | some v => some ((pc + 1, L, (18446744073709551616 + v) :: st'), h, nc, ns)
      | none => none
    | _ => none
  | .aaload => match st with
    | j :: r :: st' => match ev_ix 1020 h j r with
      | some v => some ((pc + 1, L, (bif Nat.beq v 0 then 55340232221128654848 else v) :: st'), h, nc, ns)
      | none => none
    | _ => none
  | .iastore => match st with
    | v :: j :: r :: st' => bif ev_isI v then (match ev_wr 1000 nr h j r v with
      | some h' => some ((pc + 1, L, st'), h', nc, ns)
      | none => none) else none
    | _ => none
  | .bastore => match st with
    | v :: j :: r :: st' => bif ev_isZ h (r :: st') then
        (bif Nat.blt v 2 then (match ev_wr 1002 nr h j r v with
        | some h' => some ((pc + 1, L, st'), h', nc, ns)
        | none => none) else none)
        else bif ev_isI v then (match ev_wr 1001 nr h j r (ev_b8 v) with
        | some h' => some ((pc + 1, L, st'), h', nc, ns)
        | none => none) else none
    | _ => none
  | .lastore => match st with
    | v :: j :: r :: st' => bif ev_isL v then (match ev_wr 1010 nr h j r (v - 18446744073709551616) with
      | some h' => some ((pc + 1, L, st'), h', nc, ns)
      | none => none) else none
    | _ => none
  | .arraylength => match st with
    | r :: st' => match ev_o h r with
      | some x => bif Nat.ble 1000 x.1 && ev_isI x.2.1 then some ((pc + 1, L, x.2.1 :: st'), h, nc, ns) else none
      | none => none
    | _ => none
  | .newarray _ => match st with
    | n :: st' => bif Nat.ble n 67108864 && Nat.blt h.length 1000000 then some ((pc + 2, L, (36893488147419103232 + h.length) :: st'), h ++ [(1000 + a, n, 0)], nc + 1, ns + n) else none
    | _ => none
  | .anewarray _ => none
  | .new _ => bif Nat.blt h.length 1000000 then some ((pc + 3, L, (36893488147419103232 + h.length) :: st), h ++ [(a, b, dfl a)], nc + 1, ns + b) else none
  | .ldc _ => bif ev_isI a then some ((pc + 2, L, a :: st), h, nc, ns) else none
  | .ldc_w _ => bif ev_isI a then some ((pc + 3, L, a :: st), h, nc, ns) else none
  | .ldc2_w _ => bif Nat.blt a 18446744073709551616 then some ((pc + 3, L, (18446744073709551616 + a) :: st), h, nc, ns) else none
  | _ => match ev_stA i a pc L st with
    | some f => some (f, h, nc, ns)
    | none => none
end
section
/-! ===== 05: the evaluator's reads and writes are the machine's ===== -/
/-- what the tables must say of an instruction that speaks of a class, a field or a constant -/
def ev_lk (cl : List vw_C) (dfl : Nat → Nat) (tyf : Nat → Nat → FieldType) (own : String) (ini : Prop) (args : Array Value) (s : State) (i : Instr) (a b t : Nat) : Prop := match i with
  | .getfield idx => ∃ C T N, cl[a]? = some (C, T, N) ∧ b < N ∧ ((Jvm.Cond.fieldLink own idx (T b).1 (T b).2.1 (T b).2.2.1).before args s = true ∨ ∃ host, (Jvm.Cond.fieldLinkNest own idx (T b).1 (T b).2.1 (T b).2.2.1 host).before args s = true)
  | .putfield idx => ∃ C T N ty, cl[a]? = some (C, T, N) ∧ b < N ∧ parseFieldDescriptor (T b).2.2.1 = some ty ∧ ev_tyc ty = t ∧
      (((T b).2.2.2 = false ∧ ((Jvm.Cond.fieldLink own idx (T b).1 (T b).2.1 (T b).2.2.1).before args s = true ∨ ∃ host, (Jvm.Cond.fieldLinkNest own idx (T b).1 (T b).2.1 (T b).2.2.1 host).before args s = true)) ∨
       ((T b).2.2.2 = true ∧ ini ∧ (T b).1 = own ∧ (Jvm.Cond.fieldLink own idx (T b).1 (T b).2.1 (T b).2.2.1).before args s = true))
  | .newarray atype => newarray.typeOf atype = ev_ty "" a ∧ a ≤ 10 ∧ (Jvm.Cond.arrayClass (newarray.typeOf atype)).before args s = true
  | .new idx => ∃ C T, cl[a]? = some (C, T, b) ∧ (Jvm.Cond.classLink own idx C).before args s = true ∧ (Jvm.Cond.instantiable C b).before args s = true ∧ (Jvm.Cond.initialized C).before args s = true ∧ ∀ j, j < b → (ev_tyc (tyf a j) = 10 ∧ ev_at (dfl a) j = 18446744073709551616) ∨ (ev_tyc (tyf a j) = 20 ∧ ev_at (dfl a) j = 55340232221128654848) ∨ (ev_tyc (tyf a j) < 3 ∧ ev_at (dfl a) j = 0)
  | .ldc idx => ev_isI a = true → (Jvm.Cond.constant own idx (nI a)).before args s = true
  | .ldc_w idx => (Jvm.Cond.constant own idx (nI a)).before args s = true
  | .ldc2_w idx => (Jvm.Cond.constantLong own idx (lN a)).before args s = true
  | _ => True
/-- the classes' tables are among the words, their types and names as they must be -/
def ev_Cls (W0 : List Jvm.Cond) (cl : List vw_C) (tyf : Nat → Nat → FieldType) : Prop := cl.length ≤ 1000 ∧ ∀ (ci : Nat) (C : String) (T : u_T) (N : Nat), cl[ci]? = some (C, T, N) → (∀ w ∈ u_ws C T N, w ∈ W0) ∧ (∀ k, k < N → parseFieldDescriptor (T k).2.2.1 = some (tyf ci k)) ∧ (∀ a, a < N → ∀ b, b < N → a ≠ b → (T a).2.1 ≠ (T b).2.1)
theorem va_P.ev_r {D : va_G} {cl : List vw_C} {wsR ws : va_W} {H : Heap} (h : va_P D cl (wsR ++ ws) H) : va_P D cl ws H := fun k q hk => h (wsR.length + k) q (by
  rw [List.getElem?_append_right (Nat.le_add_right _ _), Nat.add_sub_cancel_left]
  exact hk)
theorem ev_right {wsR ws : va_W} {k : Nat} {q : Nat × va_E} (h : (wsR ++ ws)[k]? = some q) (hk : wsR.length ≤ k) : ws[k - wsR.length]? = some q := by
  rw [List.getElem?_append_right hk] at h
  exact h
theorem ev_setR {wsR ws : va_W} {k : Nat} {q : Nat × va_E} (hk : wsR.length ≤ k) : wsR ++ ws.set (k - wsR.length) q = (wsR ++ ws).set k q := by
  rw [List.set_append_right _ _ hk]
theorem ev_ix_ok {ka : ev_KA} {oc : String} {tys : List (ClassId × FieldType)} {ads : List Nat} {h : ev_H} {ws : va_W} {k j r z : Nat} {vj vr : Value} (hM : ev_M ka oc tys ads h ws) (hs : ev_ix k h j r = some z) (hj : ev_v ka ads j vj) (hr : ev_v ka ads r vr) :
    ∃ q e x, vr = .ref q ∧ vj = .int (nI j) ∧ h[r - 36893488147419103232]? = some x ∧ ads[r - 36893488147419103232]? = some q ∧ ws[r - 36893488147419103232]? = some (q, e) ∧ ev_E ka oc tys ads x e ∧ x.1 = k ∧ j < x.2.1 ∧ x.2.1 < 2147483648 ∧ z = ev_at x.2.2 j ∧ vp_in (nI j) x.2.1 ∧ (nI j).toNatClampNeg = j := by
  unfold ev_ix at hs
  split at hs
  · rename_i x ho
    obtain ⟨h1, h2⟩ := ev_bif2 hs
    simp only [Bool.and_eq_true] at h1
    obtain ⟨⟨⟨h3, h4⟩, h5⟩, h6⟩ := h1
    obtain ⟨q, e, g1, g2, g3, g4, g5⟩ := hM.o ho hr
    obtain ⟨g6, _⟩ := hj.i h4
    have h5 := Nat.blt_eq.mp h5
    have h6 := Nat.blt_eq.mp h6
    exact ⟨q, e, x, g2, g6, g1, g3, g4, g5, Nat.eq_of_beq_eq_true h3, h5, h6, h2.symm, vp_in_nI h5 (by omega), nI_clamp (by omega)⟩
  · cases hs
theorem ev_wr_ok {ka : ev_KA} {oc : String} {tys : List (ClassId × FieldType)} {ads : List Nat} {h h' : ev_H} {ws : va_W} {k nr j r z : Nat} {vj vr : Value} (hM : ev_M ka oc tys ads h ws) (hs : ev_wr k nr h j r z = some h') (hj : ev_v ka ads j vj) (hr : ev_v ka ads r vr) :
    ∃ q e x, vr = .ref q ∧ vj = .int (nI j) ∧ h[r - 36893488147419103232]? = some x ∧ ads[r - 36893488147419103232]? = some q ∧ ws[r - 36893488147419103232]? = some (q, e) ∧ ev_E ka oc tys ads x e ∧ x.1 = k ∧ j < x.2.1 ∧ x.2.1 < 2147483648 ∧ nr ≤ r - 36893488147419103232 ∧ h' = h.set (r - 36893488147419103232) (x.1, x.2.1, ev_up x.2.2 j z) ∧ vp_in (nI j) x.2.1 ∧ (nI j).toNatClampNeg = j := by
  unfold ev_wr at hs
  split at hs
  · rename_i x ho
    obtain ⟨h1, h2⟩ := ev_bif2 hs
    simp only [Bool.and_eq_true] at h1
    obtain ⟨⟨⟨⟨h3, h4⟩, h5⟩, h6⟩, h7⟩ := h1
    obtain ⟨q, e, g1, g2, g3, g4, g5⟩ := hM.o ho hr
    obtain ⟨g6, _⟩ := hj.i h4
    have h5 := Nat.blt_eq.mp h5
    have h6 := Nat.blt_eq.mp h6
    exact ⟨q, e, x, g2, g6, g1, g3, g4, g5, Nat.eq_of_beq_eq_true h3, h5, h6, Nat.le_of_ble_eq_true h7, h2.symm, vp_in_nI h5 (by omega), nI_clamp (by omega)⟩
  · cases hs
theorem ev_E.obj {ka : ev_KA} {oc : String} {tys : List (ClassId × FieldType)} {ads : List Nat} {x : ev_C} {e : va_E} (h : ev_E ka oc tys ads x e) (hx : x.1 < 1000) : ∃ fs : List Value, e = .inr (x.1, fs) ∧ fs.length = x.2.1 ∧ ∀ j, j < x.2.1 → ∃ v, fs[j]? = some v ∧ ev_v ka ads (ev_at x.2.2 j) v := by
  rcases h with ⟨h0, h⟩ | ⟨h0, h0', h⟩ | ⟨h0, h⟩ | ⟨h0, h⟩
  · exact h
  · omega
  · omega
  · omega
theorem ev_E.ints {ka : ev_KA} {oc : String} {tys : List (ClassId × FieldType)} {ads : List Nat} {x : ev_C} {e : va_E} (h : ev_E ka oc tys ads x e) (hx : 1000 ≤ x.1) (hx2 : x.1 < 1010) : ∃ (t0 : Nat) (cA : ClassId) (f : Nat → Int32), tys[t0]? = some (cA, ev_ty oc (x.1 - 1000)) ∧ e = .inl (cA, x.2.1, .inl f) ∧ ∀ j, j < x.2.1 → ev_at x.2.2 j < 4294967296 ∧ f j = nI (ev_at x.2.2 j) := by
  rcases h with ⟨h0, h⟩ | ⟨h0, h0', h⟩ | ⟨h0, h⟩ | ⟨h0, h⟩
  · omega
  · exact h
  · omega
  · omega
theorem ev_E.longs {ka : ev_KA} {oc : String} {tys : List (ClassId × FieldType)} {ads : List Nat} {x : ev_C} {e : va_E} (h : ev_E ka oc tys ads x e) (hx : x.1 = 1010) : ∃ (t0 : Nat) (cA : ClassId) (f : Nat → Int64), tys[t0]? = some (cA, .long) ∧ e = .inl (cA, x.2.1, .inr (.inl f)) ∧ ∀ j, j < x.2.1 → ev_at x.2.2 j < 18446744073709551616 ∧ f j = lN (ev_at x.2.2 j) := by
  rcases h with ⟨h0, h⟩ | ⟨h0, h0', h⟩ | ⟨h0, h⟩ | ⟨h0, h⟩
  · omega
  · omega
  · exact h
  · omega
theorem ev_E.refs {ka : ev_KA} {oc : String} {tys : List (ClassId × FieldType)} {ads : List Nat} {x : ev_C} {e : va_E} (h : ev_E ka oc tys ads x e) (hx : x.1 = 1020) : ∃ (t0 : Nat) (cA : ClassId) (f : Nat → Option Nat), tys[t0]? = some (cA, .object oc) ∧ e = .inl (cA, x.2.1, .inr (.inr (.inr (.inr f)))) ∧ ∀ j, j < x.2.1 → (ev_at x.2.2 j = 0 ∧ f j = none) ∨ (ev_isR (ev_at x.2.2 j) = true ∧ ev_v ka ads (ev_at x.2.2 j) (va_rf (f j))) := by
  rcases h with ⟨h0, h⟩ | ⟨h0, h0', h⟩ | ⟨h0, h⟩ | ⟨h0, h⟩
  · omega
  · omega
  · omega
  · exact h
/-- an array of ints with one of them changed -/
theorem ev_E.upI {ka : ev_KA} {oc : String} {tys : List (ClassId × FieldType)} {ads : List Nat} {x : ev_C} {t0 j z : Nat} {cA : ClassId} {f : Nat → Int32} (hx : 1000 ≤ x.1) (hx2 : x.1 < 1010) (ht : tys[t0]? = some (cA, ev_ty oc (x.1 - 1000))) (hf : ∀ j, j < x.2.1 → ev_at x.2.2 j < 4294967296 ∧ f j = nI (ev_at x.2.2 j)) (hz : z < 4294967296) {y : Int32} (hy : y = nI z) :
    ev_E ka oc tys ads (x.1, x.2.1, ev_up x.2.2 j z) (.inl (cA, x.2.1, .inl (upd f j y))) := by
  refine Or.inr (Or.inl ⟨hx, hx2, t0, cA, _, ht, rfl, fun k hk => ?_⟩)
  show ev_at (ev_up x.2.2 j z) k < 4294967296 ∧ upd f j y k = nI (ev_at (ev_up x.2.2 j z) k)
  rw [ev_at_up (by omega)]
  unfold upd
  by_cases hkj : k = j
  · rw [if_pos hkj, if_pos hkj]; exact ⟨hz, hy⟩
  · rw [if_neg hkj, if_neg hkj]; exact hf k hk
theorem ev_newv {ka : ev_KA} {ads : List Nat} {q n : Nat} (hn : n < 18446744073709551616) (h : ads.length = n) : ev_v ka (ads ++ [q]) (36893488147419103232 + n) (.ref q) := by
  refine Or.inr (Or.inr (Or.inl ⟨n, q, hn, rfl, ?_, rfl⟩))
  rw [← h]
  simp
section EVH
variable {p : Program} {l : Launch} {e : Env} {R : Room} {s : State} {m : MethodId} {args : Array Value} {below : List Frame} {meth : Method} {c : Code} {H : Heap} {locs : List Loc} {cells slots : Nat} {Q : State → Prop} {cc : ByteArray}
variable {D : va_G} {cl : List vw_C} {tys : List (ClassId × FieldType)} {A : Nat → Prop} {H0 : Heap} {wsR ws : va_W} {oc own : String} {dfl : Nat → Nat} {tyf : Nat → Nat → FieldType} {W0 : List Jvm.Cond}
/-- the world's frame -/
def ev_W (D : va_G) (cl : List vw_C) (A : Nat → Prop) (H0 : Heap) (wsR ws : va_W) (H : Heap) (locs : List Loc) : Prop := va_P D cl (wsR ++ ws) H ∧ va_D A ws ∧ va_S A H0 H locs
def ev_RO (D : va_G) (cl : List vw_C) (A : Nat → Prop) (H0 : Heap) (wsR : va_W) : Prop := ∀ (H1 : Heap) (locs1 : List Loc), va_S A H0 H1 locs1 → va_P D cl wsR H1
set_option maxHeartbeats 4000000 in
theorem ev_H_ok {ka : ev_KA} (hx : p.tables.exec = Jvm.exec) (hb : c.code = cc) (hW0 : ∀ w ∈ W0, w.before args s = true) (hown : s.vm.findClass own = some m.cls) (hC : ev_Cls W0 cl tyf) (hRO : ev_RO D cl A H0 wsR) (hA : ∀ q, H0.size ≤ q → A q)
    {i : Instr} {n0 a b t pc pc' nL nc ns nc' ns' : Nat} {L st L' st' ads : List Nat} {h h' : ev_H} {ls : Array Slot} {vs : List Value} (hd : decode cc pc = .ok (i, ev_len i n0)) (hlk : ev_lk cl dfl tyf own (meth.name = "<init>") args s i a b t)
    (hs : ev_stH wsR.length dfl i a b t pc L st h nc ns = some ((pc', L', st'), h', nc', ns')) (hL : ev_L ka ads nL L ls) (hS : ev_S ka ads st vs) (hM : ev_M ka oc tys ads h (wsR ++ ws)) (hK : va_K D cl tys s) (hWd : ev_W D cl A H0 wsR ws H locs)
    (hrc : nc' ≤ R.cells) (hrs : ns' ≤ R.slots)
    (kk : ∀ (ls' : Array Slot) (vs' : List Value) (t2 : List (ClassId × FieldType)) (l2 : List Nat) (ws' : va_W) (H' : Heap) (locs' : List Loc), ev_L ka (ads ++ l2) nL L' ls' → ev_S ka (ads ++ l2) st' vs' → ev_M ka oc (tys ++ t2) (ads ++ l2) h' (wsR ++ ws') → va_K D cl (tys ++ t2) s → ev_W D cl A H0 wsR ws' H' locs' → W p l e R s m args below meth c H' locs' nc' ns' Q (F0 m pc' ls' vs')) :
    W p l e R s m args below meth c H locs nc ns Q (F0 m pc ls vs) := by
  have kk0 : ∀ (ls' : Array Slot) (vs' : List Value) (ws' : va_W) (H' : Heap) (locs' : List Loc), ev_L ka ads nL L' ls' → ev_S ka ads st' vs' → ev_M ka oc tys ads h' (wsR ++ ws') → ev_W D cl A H0 wsR ws' H' locs' → W p l e R s m args below meth c H' locs' nc' ns' Q (F0 m pc' ls' vs') := by
    intro ls' vs' ws' H' locs' g1 g2 g3 g4
    refine kk ls' vs' [] [] ws' H' locs' ?_ ?_ ?_ ?_ g4 <;> simpa using by assumption
  have wr : ∀ {q k : Nat} {e0 e' : va_E} {x x' : ev_C} {H1 : Heap} {locs1 : List Loc}, h[k]? = some x → ads[k]? = some q → (wsR ++ ws)[k]? = some (q, e0) → wsR.length ≤ k → h' = h.set k x' → ev_E ka oc tys ads x' e' → va_P D cl (ws.set (k - wsR.length) (q, e')) H1 → va_D A (ws.set (k - wsR.length) (q, e')) → va_S A H0 H1 locs1 →
      ev_M ka oc tys ads h' (wsR ++ ws.set (k - wsR.length) (q, e')) ∧ ev_W D cl A H0 wsR (ws.set (k - wsR.length) (q, e')) H1 locs1 := by
    intro q k e0 e' x x' H1 locs1 g1 g2 g3 g4 g5 g6 g7 g8 g9
    refine ⟨?_, (hRO H1 locs1 g9).app g7, g8, g9⟩
    rw [ev_setR g4, g5]
    exact hM.set g1 g2 g6
  obtain ⟨hP, hD, hSS⟩ := id hWd
  cases i with
  | getfield idx =>
    simp only [ev_stH] at hs
    split at hs
    · rename_i r st0
      split at hs
      · rename_i x ho
        obtain ⟨h1, h2⟩ := ev_bif2 hs
        simp only [Bool.and_eq_true] at h1
        simp only [Prod.mk.injEq] at h2
        obtain ⟨⟨rfl, rfl, rfl⟩, rfl, rfl, rfl⟩ := h2
        obtain ⟨v1, r1, rfl, h3, h4⟩ := hS.cons
        obtain ⟨q, e0, g1, rfl, g3, g4, g5⟩ := hM.o ho h3
        have hxa := Nat.eq_of_beq_eq_true h1.1
        have hbn := Nat.blt_eq.mp h1.2
        obtain ⟨C, T, N, k1, k2, k3⟩ := hlk
        have hal : a < 1000 := Nat.lt_of_lt_of_le (List.getElem?_eq_some_iff.mp k1).1 hC.1
        obtain ⟨fs, rfl, f2, f3⟩ := g5.obj (hxa ▸ hal)
        obtain ⟨v, f4, f5⟩ := f3 b hbn
        rw [hxa] at g4
        rcases k3 with k3 | ⟨host, k3⟩
        · exact va_get hx hb hW0 (hC.2 a C T N k1).1 hown hK hP _ g4 k1 b k2 k3 (fun _ z => z) f4 hd (kk0 _ _ _ _ _ hL ⟨f5, h4⟩ hM hWd)
        · exact va_getN hx hb hW0 (hC.2 a C T N k1).1 hown hK hP _ g4 k1 b k2 k3 (fun _ z => z) f4 hd (kk0 _ _ _ _ _ hL ⟨f5, h4⟩ hM hWd)
      · cases hs
    · cases hs
  | putfield idx =>
    simp only [ev_stH] at hs
    split at hs
    · rename_i v r st0
      split at hs
      · rename_i x ho
        obtain ⟨h1, h2⟩ := ev_bif2 hs
        simp only [Bool.and_eq_true] at h1
        simp only [Prod.mk.injEq] at h2
        obtain ⟨⟨rfl, rfl, rfl⟩, e5, rfl, rfl⟩ := h2
        obtain ⟨v1, r1, rfl, h3, h4⟩ := hS.cons
        obtain ⟨v2, r2, rfl, h5, h6⟩ := h4.cons
        obtain ⟨q, e0, g1, rfl, g3, g4, g5⟩ := hM.o ho h5
        obtain ⟨⟨⟨h1, h7⟩, h8⟩, h9⟩ := h1
        have hxa := Nat.eq_of_beq_eq_true h1
        have hbn := Nat.blt_eq.mp h7
        have hnr := Nat.le_of_ble_eq_true h8
        obtain ⟨C, T, N, ty, k1, k2, k3, k4, k5⟩ := hlk
        have hal : a < 1000 := Nat.lt_of_lt_of_le (List.getElem?_eq_some_iff.mp k1).1 hC.1
        obtain ⟨fs, rfl, f2, f3⟩ := g5.obj (hxa ▸ hal)
        obtain ⟨hn, hf⟩ := ev_fit_ok h9 k4 h3
        have hE' : ev_E ka oc tys ads (x.1, x.2.1, ev_up x.2.2 b v) (.inr (x.1, fs.set b v1)) := by
          refine Or.inl ⟨hxa ▸ hal, fs.set b v1, rfl, by rw [List.length_set]; exact f2, fun j hj => ?_⟩
          show ∃ w, (fs.set b v1)[j]? = some w ∧ ev_v ka ads (ev_at (ev_up x.2.2 b v) j) w
          rw [ev_at_up h3.lt]
          by_cases hjb : j = b
          · subst hjb
            exact ⟨v1, List.getElem?_set_self (f2 ▸ hj), by rw [if_pos rfl]; exact h3⟩
          · obtain ⟨w, f4, f5⟩ := f3 j hj
            exact ⟨w, by rw [List.getElem?_set_ne (fun z => hjb z.symm)]; exact f4, by rw [if_neg hjb]; exact f5⟩
        have g4' := ev_right g4 hnr
        rw [hxa] at g4'
        have go : ∀ (H1 : Heap) (locs1 : List Loc), va_P D cl (ws.set (r - 36893488147419103232 - wsR.length) (q, .inr (a, fs.set b v1))) H1 → va_D A (ws.set (r - 36893488147419103232 - wsR.length) (q, .inr (a, fs.set b v1))) → va_S A H0 H1 locs1 → W p l e R s m args below meth c H1 locs1 nc ns Q (F0 m (pc + 3) ls r2) := by
          intro H1 locs1 z1 z2 z3
          obtain ⟨m1, m2⟩ := wr g1 g3 g4 hnr e5.symm hE' (hxa ▸ z1) (hxa ▸ z2) z3
          exact kk0 _ _ _ _ _ hL h6 m1 m2
        rcases k5 with ⟨k5, k6 | ⟨host, k6⟩⟩ | ⟨k5, k6, k7, k8⟩
        · exact va_put hx hb hW0 (hC.2 a C T N k1).1 (tyf a) (hC.2 a C T N k1).2.1 (hC.2 a C T N k1).2.2 hown hK hP.ev_r hD hSS _ g4' k1 b k2 k6 (fun _ z => z) k5 k3 hn hf (f2 ▸ hbn) hd go
        · exact va_putN hx hb hW0 (hC.2 a C T N k1).1 (tyf a) (hC.2 a C T N k1).2.1 (hC.2 a C T N k1).2.2 hown hK hP.ev_r hD hSS _ g4' k1 b k2 k6 (fun _ z => z) k5 k3 hn hf (f2 ▸ hbn) hd go
        · exact va_putF hx hb hW0 (hC.2 a C T N k1).1 (tyf a) (hC.2 a C T N k1).2.1 (hC.2 a C T N k1).2.2 hown hK hP.ev_r hD hSS _ g4' k1 b k2 k8 (fun _ z => z) k5 k6 k7 k3 hn hf (f2 ▸ hbn) hd go
      · cases hs
    · cases hs
  | iaload =>
    simp only [ev_stH, ev_rdI] at hs
    split at hs
    · rename_i j r st0
      split at hs
      · rename_i z hz
        simp only [Option.some.injEq, Prod.mk.injEq] at hs
        obtain ⟨⟨rfl, rfl, rfl⟩, rfl, rfl, rfl⟩ := hs
        obtain ⟨v1, r1, rfl, h3, h4⟩ := hS.cons
        obtain ⟨v2, r2, rfl, h5, h6⟩ := h4.cons
        obtain ⟨q, e0, x, rfl, rfl, g1, g2, g3, g4, g5, g6, g7, rfl, g8, g9⟩ := ev_ix_ok hM hz h3 h5
        obtain ⟨t0, cA, f, f1, rfl, f2⟩ := g4.ints (by omega) (by omega)
        rw [g5] at f1
        refine va_iald hx hb hK hP _ t0 g3 f1 g8 hd ?_
        rw [g9, (f2 j g6).2]
        exact kk0 _ _ _ _ _ hL ⟨.int (f2 j g6).1, h6⟩ hM hWd
      · cases hs
    · cases hs
  | baload =>
    simp only [ev_stH] at hs
    cases hZ : ev_isZ h st.tail
    · rw [hZ] at hs
      simp only [cond_false, ev_rdI] at hs
      split at hs
      · rename_i j r st0
        split at hs
        · rename_i z hz
          simp only [Option.some.injEq, Prod.mk.injEq] at hs
          obtain ⟨⟨rfl, rfl, rfl⟩, rfl, rfl, rfl⟩ := hs
          obtain ⟨v1, r1, rfl, h3, h4⟩ := hS.cons
          obtain ⟨v2, r2, rfl, h5, h6⟩ := h4.cons
          obtain ⟨q, e0, x, rfl, rfl, g1, g2, g3, g4, g5, g6, g7, rfl, g8, g9⟩ := ev_ix_ok hM hz h3 h5
          obtain ⟨t0, cA, f, f1, rfl, f2⟩ := g4.ints (by omega) (by omega)
          rw [g5] at f1
          refine va_bald hx hb hK hP _ t0 g3 f1 g8 hd ?_
          rw [g9, (f2 j g6).2]
          exact kk0 _ _ _ _ _ hL ⟨.int (f2 j g6).1, h6⟩ hM hWd
        · cases hs
      · cases hs
    · rw [hZ] at hs
      simp only [cond_true, ev_rdI] at hs
      split at hs
      · rename_i j r st0
        split at hs
        · rename_i z hz
          simp only [Option.some.injEq, Prod.mk.injEq] at hs
          obtain ⟨⟨rfl, rfl, rfl⟩, rfl, rfl, rfl⟩ := hs
          obtain ⟨v1, r1, rfl, h3, h4⟩ := hS.cons
          obtain ⟨v2, r2, rfl, h5, h6⟩ := h4.cons
          obtain ⟨q, e0, x, rfl, rfl, g1, g2, g3, g4, g5, g6, g7, rfl, g8, g9⟩ := ev_ix_ok hM hz h3 h5
          obtain ⟨t0, cA, f, f1, rfl, f2⟩ := g4.ints (by omega) (by omega)
          rw [g5] at f1
          refine va_zald hx hb hK hP _ t0 g3 f1 g8 hd ?_
          rw [g9, (f2 j g6).2]
          exact kk0 _ _ _ _ _ hL ⟨.int (f2 j g6).1, h6⟩ hM hWd
        · cases hs
      · cases hs
  | caload =>
    simp only [ev_stH, ev_rdI] at hs
    split at hs
    · rename_i j r st0
      split at hs
      · rename_i z hz
        simp only [Option.some.injEq, Prod.mk.injEq] at hs
        obtain ⟨⟨rfl, rfl, rfl⟩, rfl, rfl, rfl⟩ := hs
        obtain ⟨v1, r1, rfl, h3, h4⟩ := hS.cons
        obtain ⟨v2, r2, rfl, h5, h6⟩ := h4.cons
        obtain ⟨q, e0, x, rfl, rfl, g1, g2, g3, g4, g5, g6, g7, rfl, g8, g9⟩ := ev_ix_ok hM hz h3 h5
        obtain ⟨t0, cA, f, f1, rfl, f2⟩ := g4.ints (by omega) (by omega)
        rw [g5] at f1
        refine va_cald hx hb hK hP _ t0 g3 f1 g8 hd ?_
        rw [g9, (f2 j g6).2]
        exact kk0 _ _ _ _ _ hL ⟨.int (f2 j g6).1, h6⟩ hM hWd
      · cases hs
    · cases hs
  | laload =>
    simp only [ev_stH] at hs
    split at hs
    · rename_i j r st0
      split at hs
      · rename_i z hz
        simp only [Option.some.injEq, Prod.mk.injEq] at hs
        obtain ⟨⟨rfl, rfl, rfl⟩, rfl, rfl, rfl⟩ := hs
        obtain ⟨v1, r1, rfl, h3, h4⟩ := hS.cons
        obtain ⟨v2, r2, rfl, h5, h6⟩ := h4.cons
        obtain ⟨q, e0, x, rfl, rfl, g1, g2, g3, g4, g5, g6, g7, rfl, g8, g9⟩ := ev_ix_ok hM hz h3 h5
        obtain ⟨t0, cA, f, f1, rfl, f2⟩ := g4.longs g5
        refine va_lald hx hb hK hP _ t0 g3 f1 g8 hd ?_
        rw [g9, (f2 j g6).2]
        exact kk0 _ _ _ _ _ hL ⟨.long (f2 j g6).1, h6⟩ hM hWd
      · cases hs
    · cases hs
  | aaload =>
    simp only [ev_stH] at hs
    split at hs
    · rename_i j r st0
      split at hs
      · rename_i z hz
        simp only [Option.some.injEq, Prod.mk.injEq] at hs
        obtain ⟨⟨rfl, rfl, rfl⟩, rfl, rfl, rfl⟩ := hs
        obtain ⟨v1, r1, rfl, h3, h4⟩ := hS.cons
        obtain ⟨v2, r2, rfl, h5, h6⟩ := h4.cons
        obtain ⟨q, e0, x, rfl, rfl, g1, g2, g3, g4, g5, g6, g7, rfl, g8, g9⟩ := ev_ix_ok hM hz h3 h5
        obtain ⟨t0, cA, f, f1, rfl, f2⟩ := g4.refs g5
        refine va_aldq hx hb hK hP _ t0 g3 f1 g8 hd ?_
        rw [g9]
        refine kk0 _ _ _ _ _ hL ⟨?_, h6⟩ hM hWd
        rcases f2 j g6 with ⟨f3, f4⟩ | ⟨f3, f4⟩
        · rw [f3, f4]; exact .null
        · have : Nat.beq (ev_at x.2.2 j) 0 = false := by
            have := ev_isR_s f3
            cases hq : Nat.beq (ev_at x.2.2 j) 0
            · rfl
            · have := Nat.eq_of_beq_eq_true hq; omega
          rw [this]; exact f4
      · cases hs
    · cases hs
  | iastore =>
    simp only [ev_stH] at hs
    split at hs
    · rename_i v j r st0
      cases hI : ev_isI v
      · rw [hI] at hs; cases hs
      · rw [hI] at hs
        simp only [cond_true] at hs
        split at hs
        · rename_i h2 hz
          simp only [Option.some.injEq, Prod.mk.injEq] at hs
          obtain ⟨⟨rfl, rfl, rfl⟩, rfl, rfl, rfl⟩ := hs
          obtain ⟨v0, r0, rfl, i3, i4⟩ := hS.cons
          obtain ⟨v1, r1, rfl, h3, h4⟩ := i4.cons
          obtain ⟨v2, r2, rfl, h5, h6⟩ := h4.cons
          obtain ⟨rfl, hv⟩ := i3.i hI
          obtain ⟨q, e0, x, rfl, rfl, g1, g2, g3, g4, g5, g6, g7, g0, e5, g8, g9⟩ := ev_wr_ok hM hz h3 h5
          obtain ⟨t0, cA, f, f1, rfl, f2⟩ := g4.ints (by omega) (by omega)
          have f1' := f1
          rw [g5] at f1'
          refine va_iast hx hb hK hP.ev_r hD hSS _ t0 (ev_right g3 g0) f1' g8 hd (fun H1 locs1 z1 z2 z3 => ?_)
          rw [g9] at z1 z2
          obtain ⟨m1, m2⟩ := wr g1 g2 g3 g0 e5 (ev_E.upI (by omega) (by omega) f1 f2 hv rfl) z1 z2 z3
          exact kk0 _ _ _ _ _ hL h6 m1 m2
        · cases hs
    · cases hs
  | bastore =>
    simp only [ev_stH] at hs
    split at hs
    · rename_i v j r st0
      cases hZ : ev_isZ h (r :: st0)
      · rw [hZ] at hs
        simp only [cond_false] at hs
        cases hI : ev_isI v
        · rw [hI] at hs; cases hs
        · rw [hI] at hs
          simp only [cond_true] at hs
          split at hs
          · rename_i h2 hz
            simp only [Option.some.injEq, Prod.mk.injEq] at hs
            obtain ⟨⟨rfl, rfl, rfl⟩, rfl, rfl, rfl⟩ := hs
            obtain ⟨v0, r0, rfl, i3, i4⟩ := hS.cons
            obtain ⟨v1, r1, rfl, h3, h4⟩ := i4.cons
            obtain ⟨v2, r2, rfl, h5, h6⟩ := h4.cons
            obtain ⟨rfl, hv⟩ := i3.i hI
            obtain ⟨q, e0, x, rfl, rfl, g1, g2, g3, g4, g5, g6, g7, g0, e5, g8, g9⟩ := ev_wr_ok hM hz h3 h5
            obtain ⟨t0, cA, f, f1, rfl, f2⟩ := g4.ints (by omega) (by omega)
            have f1' := f1
            rw [g5] at f1'
            refine va_bast hx hb hK hP.ev_r hD hSS _ t0 (ev_right g3 g0) f1' g8 hd (fun H1 locs1 z1 z2 z3 => ?_)
            rw [g9] at z1 z2
            obtain ⟨m1, m2⟩ := wr g1 g2 g3 g0 e5 (ev_E.upI (by omega) (by omega) f1 f2 (ev_b8_lt v) (show vp_nar .byte (nI v) = nI (ev_b8 v) from ev_i2b hv)) z1 z2 z3
            exact kk0 _ _ _ _ _ hL h6 m1 m2
          · cases hs
      · rw [hZ] at hs
        simp only [cond_true] at hs
        cases hI : Nat.blt v 2
        · rw [hI] at hs; cases hs
        · rw [hI] at hs
          simp only [cond_true] at hs
          have hv2 := Nat.blt_eq.mp hI
          split at hs
          · rename_i h2 hz
            simp only [Option.some.injEq, Prod.mk.injEq] at hs
            obtain ⟨⟨rfl, rfl, rfl⟩, rfl, rfl, rfl⟩ := hs
            obtain ⟨v0, r0, rfl, i3, i4⟩ := hS.cons
            obtain ⟨v1, r1, rfl, h3, h4⟩ := i4.cons
            obtain ⟨v2, r2, rfl, h5, h6⟩ := h4.cons
            obtain ⟨rfl, hv⟩ := i3.i (show ev_isI v = true from Nat.blt_eq.mpr (by omega))
            obtain ⟨q, e0, x, rfl, rfl, g1, g2, g3, g4, g5, g6, g7, g0, e5, g8, g9⟩ := ev_wr_ok hM hz h3 h5
            obtain ⟨t0, cA, f, f1, rfl, f2⟩ := g4.ints (by omega) (by omega)
            have f1' := f1
            rw [g5] at f1'
            refine va_zast hx hb hK hP.ev_r hD hSS _ t0 (ev_right g3 g0) f1' g8 hd (fun H1 locs1 z1 z2 z3 => ?_)
            rw [g9] at z1 z2
            have hnz : vp_nar .boolean (nI v) = nI v := by
              rcases (show v = 0 ∨ v = 1 by omega) with rfl | rfl <;> rfl
            obtain ⟨m1, m2⟩ := wr g1 g2 g3 g0 e5 (ev_E.upI (by omega) (by omega) f1 f2 hv hnz) z1 z2 z3
            exact kk0 _ _ _ _ _ hL h6 m1 m2
          · cases hs
    · cases hs
  | lastore =>
    simp only [ev_stH] at hs
    split at hs
    · rename_i v j r st0
      cases hI : ev_isL v
      · rw [hI] at hs; cases hs
      · rw [hI] at hs
        simp only [cond_true] at hs
        split at hs
        · rename_i h2 hz
          simp only [Option.some.injEq, Prod.mk.injEq] at hs
          obtain ⟨⟨rfl, rfl, rfl⟩, rfl, rfl, rfl⟩ := hs
          obtain ⟨v0, r0, rfl, i3, i4⟩ := hS.cons
          obtain ⟨v1, r1, rfl, h3, h4⟩ := i4.cons
          obtain ⟨v2, r2, rfl, h5, h6⟩ := h4.cons
          obtain ⟨rfl, hv⟩ := i3.l hI
          obtain ⟨q, e0, x, rfl, rfl, g1, g2, g3, g4, g5, g6, g7, g0, e5, g8, g9⟩ := ev_wr_ok hM hz h3 h5
          obtain ⟨t0, cA, f, f1, rfl, f2⟩ := g4.longs g5
          refine va_last hx hb hK hP.ev_r hD hSS _ t0 (ev_right g3 g0) f1 g8 hd (fun H1 locs1 z1 z2 z3 => ?_)
          rw [g9] at z1 z2
          refine (fun (mm : _ ∧ _) => kk0 _ _ _ _ _ hL h6 mm.1 mm.2) (wr g1 g2 g3 g0 e5 ?_ z1 z2 z3)
          refine Or.inr (Or.inr (Or.inl ⟨g5, t0, cA, _, f1, rfl, fun k hk => ?_⟩))
          show ev_at (ev_up x.2.2 j (v - 18446744073709551616)) k < 18446744073709551616 ∧ vp_updL f j _ k = lN (ev_at (ev_up x.2.2 j (v - 18446744073709551616)) k)
          rw [ev_at_up (Nat.lt_trans hv (by decide))]
          unfold vp_updL
          by_cases hkj : k = j
          · rw [if_pos hkj, if_pos hkj]; exact ⟨hv, rfl⟩
          · rw [if_neg hkj, if_neg hkj]; exact f2 k hk
        · cases hs
    · cases hs
  | arraylength =>
    simp only [ev_stH] at hs
    split at hs
    · rename_i r st0
      split at hs
      · rename_i x ho
        obtain ⟨h1, h2⟩ := ev_bif2 hs
        simp only [Bool.and_eq_true] at h1
        simp only [Prod.mk.injEq] at h2
        obtain ⟨⟨rfl, rfl, rfl⟩, rfl, rfl, rfl⟩ := h2
        obtain ⟨v1, r1, rfl, h3, h4⟩ := hS.cons
        obtain ⟨q, e0, g1, rfl, g3, g4, g5⟩ := hM.o ho h3
        have hxa := Nat.le_of_ble_eq_true h1.1
        have hbn := ev_isI_s h1.2
        rcases g5 with ⟨h0, _⟩ | ⟨h0, h0', t0, cA, f, f1, rfl, f3⟩ | ⟨h0, t0, cA, f, f1, rfl, f3⟩ | ⟨h0, t0, cA, f, f1, rfl, f3⟩
        · omega
        · exact va_alen hx hb hK hP _ t0 g4 f1 rfl hd (kk0 _ _ _ _ _ hL ⟨.int hbn, h4⟩ hM hWd)
        · exact va_alen hx hb hK hP _ t0 g4 f1 rfl hd (kk0 _ _ _ _ _ hL ⟨.int hbn, h4⟩ hM hWd)
        · exact va_alen hx hb hK hP _ t0 g4 f1 rfl hd (kk0 _ _ _ _ _ hL ⟨.int hbn, h4⟩ hM hWd)
      · cases hs
    · cases hs
  | newarray atype =>
    simp only [ev_stH] at hs
    split at hs
    · rename_i n st0
      obtain ⟨h1, h2⟩ := ev_bif2 hs
      simp only [Bool.and_eq_true] at h1
      have hn := Nat.le_of_ble_eq_true h1.1
      have hl := Nat.blt_eq.mp h1.2
      simp only [Prod.mk.injEq] at h2
      obtain ⟨⟨rfl, rfl, rfl⟩, rfl, rfl, rfl⟩ := h2
      obtain ⟨v1, r1, rfl, h3, h4⟩ := hS.cons
      obtain ⟨rfl, _⟩ := h3.i (show ev_isI n = true from Nat.blt_eq.mpr (by omega))
      obtain ⟨k1, k2, k3⟩ := hlk
      have fin : ∀ (a0 : vp_A) (ty : FieldType) (hty : newarray.typeOf atype = ty) (ha : ∀ cA : ClassId, vp_cell cA a0 = arrV cA n (fun _ => defaultValue ty)) (hcb : componentBytes ty ≤ 8) (hE : ∀ (cA : ClassId) (q : Nat), ev_E ka oc (tys ++ [(cA, ty)]) (ads ++ [q]) (1000 + a, n, 0) (.inl (cA, a0))), W p l e R s m args below meth c H locs nc ns Q (F0 m pc ls (.int (nI n) :: r1)) := by
        intro a0 ty hty ha hcb hE
        refine va_newa hx hb k3 hty hK hP.ev_r hD hSS hA ha (nI_pos (by omega)) (nI_clamp (by omega)) (Nat.le_trans (Nat.mul_le_mul hn hcb) (by decide)) hrc hrs hd (fun q cA H1 z1 z2 z3 z4 => ?_)
        refine kk ls _ [(cA, ty)] [q] _ H1 locs hL.mono ⟨ev_newv (by omega) hM.1, h4.mono⟩ ?_ z1 ⟨(hRO H1 locs z4).app z2, z3, z4⟩
        rw [← List.append_assoc]
        exact hM.push (hE cA q)
      have finI : ∀ (ty : FieldType) (hty : newarray.typeOf atype = ty) (ha : a < 10) (hd : defaultValue ty = .int 0) (hcb : componentBytes ty ≤ 8) (he : ev_ty oc a = ty), W p l e R s m args below meth c H locs nc ns Q (F0 m pc ls (.int (nI n) :: r1)) := by
        intro ty hty ha hd hcb he
        refine fin (n, .inl (fun _ => 0)) ty hty (fun cA => by rw [hd]; rfl) hcb (fun cA q => ?_)
        refine Or.inr (Or.inl ⟨Nat.le_add_right _ _, Nat.add_lt_add_left ha 1000, tys.length, cA, _, ?_, rfl, fun j _ => ?_⟩)
        · show (tys ++ [(cA, ty)])[tys.length]? = some (cA, ev_ty oc (1000 + a - 1000))
          rw [Nat.add_sub_cancel_left, he]
          simp
        · show ev_at 0 j < 4294967296 ∧ (0 : Int32) = nI (ev_at 0 j)
          rw [ev_at_0]
          exact ⟨by decide, rfl⟩
      have hany : ∀ {P : Prop}, (a = 0 → P) → (a = 1 → P) → (a = 2 → P) → (a = 3 → P) → (a = 10 → P) → (ev_ty "" a = .object "" → P) → P := by
        intro P p0 p1 p2 p3 p10 pn
        rcases (show a = 0 ∨ a = 1 ∨ a = 2 ∨ a = 3 ∨ a = 4 ∨ a = 5 ∨ a = 6 ∨ a = 7 ∨ a = 8 ∨ a = 9 ∨ a = 10 by omega) with h | h | h | h | h | h | h | h | h | h | h
        · exact p0 h
        · exact p1 h
        · exact p2 h
        · exact p3 h
        all_goals first
          | exact p10 h
          | (refine pn ?_; subst h; rfl)
      refine hany (fun h => ?_) (fun h => ?_) (fun h => ?_) (fun h => ?_) (fun h => ?_) (fun h => ?_)
      · rw [h] at k1; exact finI .int k1 (by omega) rfl (by decide) (by rw [h]; rfl)
      · rw [h] at k1; exact finI .byte k1 (by omega) rfl (by decide) (by rw [h]; rfl)
      · rw [h] at k1; exact finI .boolean k1 (by omega) rfl (by decide) (by rw [h]; rfl)
      · rw [h] at k1; exact finI .char k1 (by omega) rfl (by decide) (by rw [h]; rfl)
      · rw [h] at k1
        refine fin (n, .inr (.inl (fun _ => 0))) .long k1 (fun cA => rfl) (by decide) (fun cA q => ?_)
        refine Or.inr (Or.inr (Or.inl ⟨by rw [h], tys.length, cA, _, by simp, rfl, fun j _ => ?_⟩))
        show ev_at 0 j < 18446744073709551616 ∧ (0 : Int64) = lN (ev_at 0 j)
        rw [ev_at_0]
        exact ⟨by decide, rfl⟩
      · rw [h] at k1; cases atype <;> cases k1
    · cases hs
  | new idx =>
    simp only [ev_stH] at hs
    obtain ⟨h1, h2⟩ := ev_bif2 hs
    have hl := Nat.blt_eq.mp h1
    simp only [Prod.mk.injEq] at h2
    obtain ⟨⟨rfl, rfl, rfl⟩, rfl, rfl, rfl⟩ := h2
    obtain ⟨C, T, k1, k2, k3, k4, k5⟩ := hlk
    have hal : a < 1000 := Nat.lt_of_lt_of_le (List.getElem?_eq_some_iff.mp k1).1 hC.1
    refine va_new (fs := (List.range b).map (fun j => defaultValue (tyf a j))) hx hb hW0 (hC.2 a C T b k1).1 (tyf a) (hC.2 a C T b k1).2.1 hown k2 k3 k4 hK hP.ev_r hD hSS hA k1 (fun j hj => ?_) hrc hrs hd (fun q H1 z2 z3 z4 => ?_)
    · unfold vp_V
      simp [List.getD_eq_getElem?_getD, hj]
    · refine kk ls _ [] [q] _ H1 locs hL.mono ⟨ev_newv (by omega) hM.1, hS.mono⟩ ?_ (by simpa using hK) ⟨(hRO H1 locs z4).app z2, z3, z4⟩
      rw [← List.append_assoc]
      refine hM.push (Or.inl ⟨hal, _, rfl, by simp, fun j hj => ?_⟩)
      refine ⟨defaultValue (tyf a j), by simp [show j < b from hj], ?_⟩
      show ev_v ka _ (ev_at (dfl a) j) _
      rcases k5 j hj with ⟨c1, c2⟩ | ⟨c1, c2⟩ | ⟨c1, c2⟩
      · rw [c2]
        cases hty : tyf a j <;> rw [hty] at c1 <;> simp [ev_tyc] at c1
        exact .long (n := 0) (by decide)
      · rw [c2]
        cases hty : tyf a j <;> rw [hty] at c1 <;> simp [ev_tyc] at c1
        · exact .null
        · exact .null
      · rw [c2]
        cases hty : tyf a j <;> rw [hty] at c1 <;> simp [ev_tyc] at c1
        · exact .int (x := 0) (by decide)
        · exact .int (x := 0) (by decide)
        · exact .int (x := 0) (by decide)
  | ldc idx =>
    simp only [ev_stH] at hs
    obtain ⟨h1, h2⟩ := ev_bif2 hs
    simp only [Prod.mk.injEq] at h2
    obtain ⟨⟨rfl, rfl, rfl⟩, rfl, rfl, rfl⟩ := h2
    exact lv_ldc hx hb hown (hlk h1) hd (kk0 _ _ _ _ _ hL ⟨.int (ev_isI_s h1), hS⟩ hM hWd)
  | ldc_w idx =>
    simp only [ev_stH] at hs
    obtain ⟨h1, h2⟩ := ev_bif2 hs
    simp only [Prod.mk.injEq] at h2
    obtain ⟨⟨rfl, rfl, rfl⟩, rfl, rfl, rfl⟩ := h2
    exact lv_ldcw hx hb hown hlk hd (kk0 _ _ _ _ _ hL ⟨.int (ev_isI_s h1), hS⟩ hM hWd)
  | ldc2_w idx =>
    simp only [ev_stH] at hs
    obtain ⟨h1, h2⟩ := ev_bif2 hs
    simp only [Prod.mk.injEq] at h2
    obtain ⟨⟨rfl, rfl, rfl⟩, rfl, rfl, rfl⟩ := h2
    exact lv_ldc2 hx hb hown hlk hd (kk0 _ _ _ _ _ hL ⟨.long (Nat.blt_eq.mp h1), hS⟩ hM hWd)
  | anewarray idx => cases hs
  | _ =>
    simp only [ev_stH] at hs
    split at hs
    · rename_i f hf
      simp only [Option.some.injEq, Prod.mk.injEq] at hs
      obtain ⟨rfl, rfl, rfl, rfl⟩ := hs
      exact ev_A_ok hx hb hd hf hL hS (fun ls' vs' g1 g2 => kk0 _ _ _ _ _ g1 g2 hM hWd)
    · cases hs
end EVH
end
section
/-! ===== 06: the evaluator: methods, calls, runs ===== -/
/-- an instruction's row: its place, it, its length where that isn't fixed, and what it speaks of -/
abbrev ev_I : Type := Nat × Instr × Nat × Nat × Nat × Nat × Nat
/-- a method: its name, its code, its locals, what it returns, its rows by sixteens -/
abbrev ev_Me : Type := MethodName × ByteArray × Nat × Option FieldType × List (List ev_I)
abbrev ev_A : Type := Option Nat × ev_H × Nat × Nat
def ev_ft (code : List (List ev_I)) (pc : Nat) : Option ev_I := match code[pc / 16]? with
  | some l => l.find? (fun x => Nat.beq x.1 pc)
  | none => none
def ev_rok (ty : FieldType) (x : Nat) : Bool := match ty with
  | .int => true
  | .boolean => Nat.blt x 2
  | .char => Nat.blt x 65536
  | .byte => Nat.beq (ev_b8 x) x
  | _ => false
def ev_isO (ty : FieldType) : Bool := match ty with
  | .object _ => true
  | .array _ => true
  | _ => false
def ev_end (i : Instr) (rt : Option FieldType) (st : List Nat) : Option (Option Nat) := match i with
  | .return_ => match rt, st with
    | none, [] => some none
    | _, _ => none
  | .ireturn => match rt, st with
    | some ty, [x] => bif ev_isI x && ev_rok ty x then some (some x) else none
    | _, _ => none
  | .lreturn => match rt, st with
    | some .long, [x] => bif ev_isL x then some (some x) else none
    | _, _ => none
  | .areturn => match rt, st with
    | some ty, [x] => bif ev_isO ty && (ev_isR x || ev_isN x) then some (some x) else none
    | _, _ => none
  | _ => none
def ev_cat : List Nat → Nat
  | [] => 0
  | x :: l => (bif ev_isL x then 2 else 1) + ev_cat l
/-- a call: n values are taken, the receiver among them -/
def ev_inv (callf : Nat → List Nat → ev_H → Option ev_A) (mid n pc : Nat) (L st : List Nat) (h : ev_H) (nc ns : Nat) : Option ev_G :=
  bif Nat.ble n st.length && Nat.ble (ev_cat (st.drop n)) 8 then
    (match callf mid (st.take n).reverse h with
    | some (some r, h', mc, ms) => some ((pc + 3, L, r :: st.drop n), h', nc + mc, ns + ms)
    | some (none, h', mc, ms) => some ((pc + 3, L, st.drop n), h', nc + mc, ns + ms)
    | none => none)
  else none
def ev_step (nr : Nat) (dfl : Nat → Nat) (callf : Nat → List Nat → ev_H → Option ev_A) (i : Instr) (a b t pc : Nat) (L st : List Nat) (h : ev_H) (nc ns : Nat) : Option ev_G := match i with
  | .invokespecial _ => bif Nat.beq b 0 then (match st with
      | r :: st' => bif ev_isR r && Nat.ble (ev_cat st') 8 then some ((pc + 3, L, st'), h, nc, ns) else none
      | [] => none)
    else (match st.drop (b - 1) with
      | r :: _ => bif ev_isR r then ev_inv callf a b pc L st h nc ns else none
      | [] => none)
  | .invokestatic _ => ev_inv callf a b pc L st h nc ns
  | .invokevirtual _ => (match st.drop (b - 1) with
      | r :: _ => (match ev_o h r with
        | some x => bif Nat.beq x.1 t && Nat.blt 0 b then ev_inv callf a b pc L st h nc ns else none
        | none => none)
      | [] => none)
  | _ => ev_stH nr dfl i a b t pc L st h nc ns
/-! constants, static fields, rows copied, made strings: further rules -/
def ev_isK (x : Nat) : Bool := Nat.ble 92233720368547758080 x && Nat.blt x 110680464442257309696
def ev_isA (x : Nat) : Bool := Nat.ble 110680464442257309696 x && Nat.blt x 129127208515966861312
def ev_isX (x : Nat) : Bool := Nat.beq x 129127208515966861312
noncomputable def ev_cpN (A B dp sp n : Nat) : Nat := Nat.rec A (fun i ih => ev_up ih (dp + i) (ev_at B (sp + i))) n
noncomputable def ev_all8 (B sp n : Nat) : Bool := Nat.rec true (fun i ih => ih && Nat.beq (ev_b8 (ev_at B (sp + i))) (ev_at B (sp + i))) n
def ev_oShrL (x y : Nat) : Nat := 18446744073709551616 + ((lN (x - 18446744073709551616)) >>> ((nI y).toInt64 &&& 63)).toBitVec.toNat
def ev_ldK (d n pc : Nat) (L st : List Nat) : Option ev_F := match L[n]? with
  | some x => bif ev_isK x || (ev_isA x || ev_isX x) then some (pc + d, L, x :: st) else none
  | none => none
/-- a row of bytes copied into another: of a constant, or of ours -/
noncomputable def ev_cpy (nr : Nat) (dfl : Nat → Nat) (pc : Nat) (L st : List Nat) (h : ev_H) (nc ns : Nat) : Option ev_G := match st with
  | n :: dp :: d :: sp :: s0 :: st' => (match ev_o h d with
    | some x => bif Nat.beq x.1 1001 && (Nat.ble nr (d - 36893488147419103232) && (Nat.ble (dp + n) x.2.1 && (Nat.blt x.2.1 2147483648 && Nat.ble (ev_cat st') 8))) then
        (bif ev_isA s0 then
          (bif Nat.ble (sp + n) (dfl (3000 + (s0 - 110680464442257309696))) && (Nat.blt (dfl (3000 + (s0 - 110680464442257309696))) 2147483648 && ev_all8 (dfl (2000 + (s0 - 110680464442257309696))) sp n) then
            some ((pc + 3, L, st'), h.set (d - 36893488147419103232) (x.1, x.2.1, ev_cpN x.2.2 (dfl (2000 + (s0 - 110680464442257309696))) dp sp n), nc, ns) else none)
        else (match ev_o h s0 with
          | some y => bif Nat.beq y.1 1001 && (Nat.ble nr (s0 - 36893488147419103232) && (Nat.ble (sp + n) y.2.1 && (Nat.blt y.2.1 2147483648 && ev_all8 y.2.2 sp n))) then
              some ((pc + 3, L, st'), h.set (d - 36893488147419103232) (x.1, x.2.1, ev_cpN x.2.2 y.2.2 dp sp n), nc, ns) else none
          | none => none))
      else none
    | none => none)
  | _ => none
noncomputable def ev_stK (nr : Nat) (dfl : Nat → Nat) (callf : Nat → List Nat → ev_H → Option ev_A) (i : Instr) (a b t pc : Nat) (L st : List Nat) (h : ev_H) (nc ns : Nat) : Option ev_G := match i with
  | .aload n => (match ev_ldK 2 n pc L st with
    | some f => some (f, h, nc, ns)
    | none => none)
  | .aload_n k => (match ev_ldK 1 k.val pc L st with
    | some f => some (f, h, nc, ns)
    | none => none)
  | .getfield _ => (match st with
    | r :: st' => bif ev_isK r && Nat.beq a 1 then (bif Nat.beq b 0 then some ((pc + 3, L, (r + 18446744073709551616) :: st'), h, nc, ns) else bif Nat.beq b 1 then some ((pc + 3, L, 0 :: st'), h, nc, ns) else none) else none
    | _ => none)
  | .arraylength => (match st with
    | r :: st' => bif ev_isA r && Nat.blt (dfl (3000 + (r - 110680464442257309696))) 2147483648 then some ((pc + 1, L, dfl (3000 + (r - 110680464442257309696)) :: st'), h, nc, ns) else none
    | _ => none)
  | .baload => (match st with
    | j :: r :: st' => bif ev_isA r && (ev_isI j && (Nat.blt j (dfl (3000 + (r - 110680464442257309696))) && (Nat.blt (dfl (3000 + (r - 110680464442257309696))) 2147483648 && ev_isI (ev_at (dfl (2000 + (r - 110680464442257309696))) j)))) then some ((pc + 1, L, ev_at (dfl (2000 + (r - 110680464442257309696))) j :: st'), h, nc, ns) else none
    | _ => none)
  | .ldc _ => bif ev_isK a && Nat.blt (a - 92233720368547758080) (dfl 5000) then some ((pc + 2, L, a :: st), h, nc, ns) else none
  | .getstatic _ => bif Nat.beq a 1 || ev_isX a then some ((pc + 3, L, a :: st), h, nc, ns) else none
  | .ishr => (match st with
    | y :: x :: r => bif Nat.beq y 0 && ev_isI x then some ((pc + 1, L, x :: r), h, nc, ns) else none
    | _ => none)
  | .lshr => (match st with
    | y :: x :: r => bif ev_isI y && ev_isL x then some ((pc + 1, L, ev_oShrL x y :: r), h, nc, ns) else none
    | _ => none)
  | .lookupswitch dflt ps => (match st with
    | x :: r => bif ev_isI x && (ps.toList.zip (ps.toList.drop 1)).all (fun (a, next) => a.1 < next.1) then (match ev_sw pc (Op.lookupswitch.offset ps.toList dflt (ev_si x)) L r with
      | some f => some (f, h, nc, ns)
      | none => none) else none
    | _ => none)
  | .invokevirtual _ => (match st.drop (b - 1) with
    | r :: _ => bif ev_isK r && (Nat.beq t 1 && Nat.blt 0 b) then ev_inv callf a b pc L st h nc ns else none
    | [] => none)
  | .invokestatic _ => bif Nat.beq a 999 then ev_cpy nr dfl pc L st h nc ns else none
  | .new _ => bif Nat.beq t 1 && Nat.blt h.length 1000000 then some ((pc + 3, L, (36893488147419103232 + h.length) :: st), h ++ [(1, 2, dfl 1)], nc + 1, ns + b) else none
  | .anewarray _ => (match st with
    | n :: st' => bif Nat.ble n 1000000 && Nat.blt h.length 1000000 then some ((pc + 3, L, (36893488147419103232 + h.length) :: st'), h ++ [(1020, n, 0)], nc + 1, ns + n) else none
    | _ => none)
  | .aastore => (match st with
    | v :: j :: r :: st' => (match ev_o h v with
      | some x => bif Nat.beq x.1 a && Nat.ble nr (v - 36893488147419103232) then (match ev_wr 1020 nr h j r v with
        | some h' => some ((pc + 1, L, st'), h', nc, ns)
        | none => none) else none
      | none => none)
    | _ => none)
  | _ => none
/-- rows that these rules alone speak of -/
def ev_pre (i : Instr) (a t : Nat) : Bool := match i with
  | .invokestatic _ => Nat.beq a 999
  | .new _ => Nat.beq t 1
  | _ => false
noncomputable def ev_stepX (nr : Nat) (dfl : Nat → Nat) (callf : Nat → List Nat → ev_H → Option ev_A) (i : Instr) (a b t pc : Nat) (L st : List Nat) (h : ev_H) (nc ns : Nat) : Option ev_G := bif ev_pre i a t then ev_stK nr dfl callf i a b t pc L st h nc ns else match ev_step nr dfl callf i a b t pc L st h nc ns with
  | some g => some g
  | none => ev_stK nr dfl callf i a b t pc L st h nc ns
theorem ev_stepX_of {nr : Nat} {dfl : Nat → Nat} {callf : Nat → List Nat → ev_H → Option ev_A} {i : Instr} {a b t pc nc ns : Nat} {L st : List Nat} {h : ev_H} {g : ev_G} (hp : ev_pre i a t = false) (hg : ev_step nr dfl callf i a b t pc L st h nc ns = some g) : ev_stepX nr dfl callf i a b t pc L st h nc ns = some g := by
  unfold ev_stepX
  rw [hp, cond_false, hg]
theorem ev_stepX_or {nr : Nat} {dfl : Nat → Nat} {callf : Nat → List Nat → ev_H → Option ev_A} {i : Instr} {a b t pc nc ns : Nat} {L st : List Nat} {h : ev_H} {g : ev_G} (hg : ev_stepX nr dfl callf i a b t pc L st h nc ns = some g) : (ev_pre i a t = false ∧ ev_step nr dfl callf i a b t pc L st h nc ns = some g) ∨ ev_stK nr dfl callf i a b t pc L st h nc ns = some g := by
  unfold ev_stepX at hg
  cases hp : ev_pre i a t
  · rw [hp, cond_false] at hg
    cases hs : ev_step nr dfl callf i a b t pc L st h nc ns with
    | some g0 => rw [hs] at hg; exact Or.inl ⟨rfl, hg⟩
    | none => rw [hs] at hg; exact Or.inr hg
  · rw [hp, cond_true] at hg
    exact Or.inr hg
noncomputable def ev_run (nr : Nat) (dfl : Nat → Nat) (callf : Nat → List Nat → ev_H → Option ev_A) (code : List (List ev_I)) (rt : Option FieldType) (n : Nat) : Nat → List Nat → List Nat → ev_H → Nat → Nat → Option ev_A :=
  Nat.rec (fun _ _ _ _ _ _ => none) (fun _ ih pc L st h nc ns => match ev_ft code pc with
    | some x => (match ev_end x.2.1 rt st with
      | some r => some (r, h, nc, ns)
      | none => (match ev_stepX nr dfl callf x.2.1 x.2.2.2.1 x.2.2.2.2.1 x.2.2.2.2.2.1 pc L st h nc ns with
        | some g => bif Nat.ble nc g.2.2.1 && Nat.ble ns g.2.2.2 then ih g.1.1 g.1.2.1 g.1.2.2 g.2.1 g.2.2.1 g.2.2.2 else none
        | none => none))
    | none => none) n
def ev_ent : List Nat → List Nat
  | [] => []
  | x :: l => bif ev_isL x then x :: 73786976294838206464 :: ev_ent l else x :: ev_ent l
noncomputable def ev_met (nr : Nat) (dfl : Nat → Nat) (mt : List ev_Me) (d : Nat) : Nat → List Nat → ev_H → Option ev_A :=
  Nat.rec (fun _ _ _ => none) (fun _ ih mid as h => match mt[mid]? with
    | some m => bif Nat.ble (ev_ent as).length m.2.2.1 then ev_run nr dfl ih m.2.2.2.2 m.2.2.2.1 10000000 0 (ev_ent as ++ List.replicate (m.2.2.1 - (ev_ent as).length) 73786976294838206464) [] h 0 0 else none
    | none => none) d
theorem ev_run_s (nr : Nat) (dfl : Nat → Nat) (callf : Nat → List Nat → ev_H → Option ev_A) (code : List (List ev_I)) (rt : Option FieldType) (n : Nat) (pc : Nat) (L st : List Nat) (h : ev_H) (nc ns : Nat) : ev_run nr dfl callf code rt (n + 1) pc L st h nc ns = match ev_ft code pc with
    | some x => (match ev_end x.2.1 rt st with
      | some r => some (r, h, nc, ns)
      | none => (match ev_stepX nr dfl callf x.2.1 x.2.2.2.1 x.2.2.2.2.1 x.2.2.2.2.2.1 pc L st h nc ns with
        | some g => bif Nat.ble nc g.2.2.1 && Nat.ble ns g.2.2.2 then ev_run nr dfl callf code rt n g.1.1 g.1.2.1 g.1.2.2 g.2.1 g.2.2.1 g.2.2.2 else none
        | none => none))
    | none => none := rfl
theorem ev_ft_ok {code : List (List ev_I)} {pc : Nat} {x : ev_I} (h : ev_ft code pc = some x) : (∃ l ∈ code, x ∈ l) ∧ x.1 = pc := by
  unfold ev_ft at h
  split at h
  · rename_i l hl
    exact ⟨⟨l, List.mem_of_getElem? hl, List.mem_of_find?_eq_some h⟩, Nat.eq_of_beq_eq_true (List.find?_some (p := fun x : ev_I => Nat.beq x.1 pc) h)⟩
  · cases h
theorem ev_cat_ok {ka : ev_KA} {ads : List Nat} : ∀ {st : List Nat} {vs : List Value}, ev_S ka ads st vs → (vs.map fun v => v.category).sum = ev_cat st
  | [], [], _ => rfl
  | x :: st, v :: vs, h => by
    have ih := ev_cat_ok h.2
    show v.category + (vs.map fun v => v.category).sum = (bif ev_isL x then 2 else 1) + ev_cat st
    rw [ih]
    cases hq : ev_isL x
    · rw [h.1.cat1 hq]; rfl
    · rw [(h.1.l hq).1]; rfl
  | [], _ :: _, h => h.elim
  | _ :: _, [], h => h.elim
/-- a method's arguments in its locals -/
theorem ev_ent_len {ka : ev_KA} {ads : List Nat} : ∀ {as : List Nat} {vs : List Value}, ev_S ka ads as vs → (lg_sl vs).length = (ev_ent as).length
  | [], [], _ => rfl
  | x :: as, v :: vs, h => by
    have ih := ev_ent_len h.2
    have e : lg_sl (v :: vs) = (if v.category = 2 then [.val v, .second] else [.val v]) ++ lg_sl vs := rfl
    rw [e]
    cases hq : ev_isL x
    · rw [h.1.cat1 hq]
      simp only [ev_ent, hq, cond_false]
      simp [ih]
    · rw [(h.1.l hq).1]
      simp only [ev_ent, hq, cond_true]
      simp [ih, Value.category]
  | [], _ :: _, h => h.elim
  | _ :: _, [], h => h.elim
theorem ev_ent_in {ka : ev_KA} {ads : List Nat} : ∀ {as : List Nat} {vs : List Value} (k0 : Nat), ev_S ka ads as vs → ∀ i x, (ev_ent as)[i]? = some x → x = 73786976294838206464 ∨ ∃ v, (k0 + i, v) ∈ lv_args k0 vs ∧ ev_v ka ads x v
  | [], [], k0, _, i, x, h => by simp [ev_ent] at h
  | y :: as, v :: vs, k0, hS, i, x, h => by
    cases hq : ev_isL y
    · simp only [ev_ent, hq, cond_false] at h
      have hc := hS.1.cat1 hq
      cases i with
      | zero =>
        simp at h
        subst h
        exact Or.inr ⟨v, List.mem_cons_self, hS.1⟩
      | succ i =>
        simp at h
        rcases ev_ent_in (k0 + 1) hS.2 i x h with g | ⟨w, g1, g2⟩
        · exact Or.inl g
        · refine Or.inr ⟨w, List.mem_cons_of_mem _ ?_, g2⟩
          rw [hc, if_neg (by decide)]
          rw [show k0 + (i + 1) = k0 + 1 + i by omega]
          exact g1
    · simp only [ev_ent, hq, cond_true] at h
      have hc : v.category = 2 := by rw [(hS.1.l hq).1]; rfl
      cases i with
      | zero =>
        simp at h
        subst h
        exact Or.inr ⟨v, List.mem_cons_self, hS.1⟩
      | succ i =>
        cases i with
        | zero =>
          simp at h
          exact Or.inl h.symm
        | succ i =>
          simp at h
          rcases ev_ent_in (k0 + 2) hS.2 i x h with g | ⟨w, g1, g2⟩
          · exact Or.inl g
          · refine Or.inr ⟨w, List.mem_cons_of_mem _ ?_, g2⟩
            rw [hc, if_pos rfl]
            rw [show k0 + (i + 1 + 1) = k0 + 2 + i by omega]
            exact g1
  | [], _ :: _, _, h, _, _, _ => h.elim
  | _ :: _, [], _, h, _, _, _ => h.elim
theorem ev_entry {ka : ev_KA} {ads : List Nat} {as : List Nat} {vs : List Value} {n : Nat} (hS : ev_S ka ads as vs) (hn : (ev_ent as).length ≤ n) : ev_L ka ads n (ev_ent as ++ List.replicate (n - (ev_ent as).length) 73786976294838206464) ((lg_sl vs ++ List.replicate (n - (lg_sl vs).length) Slot.unset).toArray) := by
  refine ⟨by simp; omega, lv_args 0 vs, lv_entry vs (ev_ent_len hS ▸ hn), fun i x hx => ?_⟩
  by_cases hi : i < (ev_ent as).length
  · rw [List.getElem?_append_left hi] at hx
    rcases ev_ent_in 0 hS i x hx with g | ⟨v, g1, g2⟩
    · exact Or.inl g
    · exact Or.inr ⟨v, by simpa using g1, g2⟩
  · rw [List.getElem?_append_right (by omega), List.getElem?_replicate] at hx
    split at hx
    · cases hx; exact Or.inl rfl
    · cases hx
theorem ev_S.rev {ka : ev_KA} {ads : List Nat} : ∀ {a b : List Nat} {va vb : List Value}, ev_S ka ads a va → ev_S ka ads b vb → ev_S ka ads (a.reverse ++ b) (va.reverse ++ vb)
  | [], _, [], _, _, h2 => h2
  | x :: a, b, v :: va, vb, h1, h2 => by
    rw [List.reverse_cons, List.reverse_cons, List.append_assoc, List.append_assoc]
    exact ev_S.rev h1.2 (show ev_S ka ads (x :: b) (v :: vb) from ⟨h1.1, h2⟩)
  | [], _, _ :: _, _, h, _ => h.elim
  | _ :: _, _, [], _, h, _ => h.elim
theorem ev_S.reverse {ka : ev_KA} {ads : List Nat} {a : List Nat} {va : List Value} (h : ev_S ka ads a va) : ev_S ka ads a.reverse va.reverse := by
  have := ev_S.rev h (show ev_S ka ads [] [] from trivial)
  simpa using this
/-- a stack in two -/
theorem ev_S.split {ka : ev_KA} {ads : List Nat} : ∀ (n : Nat) {st : List Nat} {vs : List Value}, ev_S ka ads st vs → n ≤ st.length → vs = vs.take n ++ vs.drop n ∧ ev_S ka ads (st.take n) (vs.take n) ∧ ev_S ka ads (st.drop n) (vs.drop n) ∧ (vs.take n).length = n
  | 0, st, vs, h, _ => ⟨by simp, trivial, h, by simp⟩
  | n + 1, [], _, _, hn => by simp at hn
  | n + 1, x :: st, [], h, _ => h.elim
  | n + 1, x :: st, v :: vs, h, hn => by
    obtain ⟨h1, h2, h3, h4⟩ := ev_S.split n h.2 (by simpa using hn)
    exact ⟨by simp, ⟨h.1, h2⟩, h3, by simp [h4]⟩
end
section
/-! ===== 06a: lists read and written by their recursors alone (the kernel goes through them in fewer steps) ===== -/
noncomputable def ev_gt {α : Type} (l : List α) : Nat → Option α := List.rec (fun _ => none) (fun a _ ih n => Bool.rec (ih (Nat.pred n)) (some a) (Nat.beq n 0)) l
noncomputable def ev_put {α : Type} (l : List α) : Nat → α → List α := List.rec (fun _ _ => []) (fun a t ih n x => Bool.rec (a :: ih (Nat.pred n) x) (x :: t) (Nat.beq n 0)) l
theorem ev_gt_ok {α : Type} : ∀ (l : List α) (n : Nat), ev_gt l n = l[n]?
  | [], n => by simp; rfl
  | a :: l, 0 => rfl
  | a :: l, n + 1 => by
    have e : ev_gt (a :: l) (n + 1) = ev_gt l n := rfl
    rw [e, ev_gt_ok l n]
    simp
theorem ev_put_ok {α : Type} : ∀ (l : List α) (n : Nat) (x : α), ev_put l n x = l.set n x
  | [], n, x => rfl
  | a :: l, 0, x => rfl
  | a :: l, n + 1, x => by
    have e : ev_put (a :: l) (n + 1) x = a :: ev_put l n x := rfl
    rw [e, ev_put_ok l n x]
    rfl
noncomputable def ev_zo (h : ev_H) (r : Nat) : Option ev_C := bif ev_isR r then ev_gt h (Nat.sub r 36893488147419103232) else none
theorem ev_zo_ok (h : ev_H) (r : Nat) : ev_zo h r = ev_o h r := by
  unfold ev_zo ev_o
  rw [ev_gt_ok]
  rfl
noncomputable def ev_zset1 (L : List Nat) (i x : Nat) : List Nat := bif Nat.beq i 0 then ev_put L 0 x else match ev_gt L (Nat.pred i) with
  | some y => bif ev_isL y then ev_put (ev_put L (Nat.pred i) 73786976294838206464) i x else ev_put L i x
  | none => ev_put L i x
theorem ev_zset1_ok (L : List Nat) (i x : Nat) : ev_zset1 L i x = ev_set1 L i x := by
  unfold ev_zset1 ev_set1
  simp only [ev_gt_ok, ev_put_ok]
  cases i <;> rfl
noncomputable def ev_zset2 (L : List Nat) (i x : Nat) : List Nat := ev_put (ev_zset1 L i x) (i + 1) 73786976294838206464
theorem ev_zset2_ok (L : List Nat) (i x : Nat) : ev_zset2 L i x = ev_set2 L i x := by
  unfold ev_zset2 ev_set2
  rw [ev_put_ok, ev_zset1_ok]
noncomputable def ev_zldI (d n pc : Nat) (L st : List Nat) : Option ev_F := match ev_gt L n with
  | some x => bif ev_isI x then some (pc + d, L, x :: st) else none
  | none => none
theorem ev_zldI_ok (d n pc : Nat) (L st : List Nat) : ev_zldI d n pc L st = ev_ldI d n pc L st := by unfold ev_zldI ev_ldI; rw [ev_gt_ok]; rfl
noncomputable def ev_zldL (d n pc : Nat) (L st : List Nat) : Option ev_F := match ev_gt L n with
  | some x => bif ev_isL x then some (pc + d, L, x :: st) else none
  | none => none
theorem ev_zldL_ok (d n pc : Nat) (L st : List Nat) : ev_zldL d n pc L st = ev_ldL d n pc L st := by unfold ev_zldL ev_ldL; rw [ev_gt_ok]; rfl
noncomputable def ev_zldR (d n pc : Nat) (L st : List Nat) : Option ev_F := match ev_gt L n with
  | some x => bif ev_isR x || ev_isN x then some (pc + d, L, x :: st) else none
  | none => none
theorem ev_zldR_ok (d n pc : Nat) (L st : List Nat) : ev_zldR d n pc L st = ev_ldR d n pc L st := by unfold ev_zldR ev_ldR; rw [ev_gt_ok]; rfl
/-- has a list a place n? -/
noncomputable def ev_has (L : List Nat) (n : Nat) : Bool := match ev_gt L n with
  | some _ => true
  | none => false
theorem ev_has_ok (L : List Nat) (n : Nat) : ev_has L n = Nat.blt n L.length := by
  unfold ev_has
  rw [ev_gt_ok]
  cases h : L[n]? with
  | none =>
    have := List.getElem?_eq_none_iff.mp h
    cases hq : Nat.blt n L.length
    · rfl
    · have := Nat.blt_eq.mp hq; omega
  | some x =>
    have := (List.getElem?_eq_some_iff.mp h).1
    exact (Nat.blt_eq.mpr this).symm
noncomputable def ev_zstI (d n pc : Nat) (L st : List Nat) : Option ev_F := match st with
  | x :: r => bif ev_isI x && ev_has L n then some (pc + d, ev_zset1 L n x, r) else none
  | [] => none
theorem ev_zstI_ok (d n pc : Nat) (L st : List Nat) : ev_zstI d n pc L st = ev_stI d n pc L st := by unfold ev_zstI ev_stI; simp only [ev_has_ok, ev_zset1_ok]; rfl
noncomputable def ev_zstL (d n pc : Nat) (L st : List Nat) : Option ev_F := match st with
  | x :: r => bif ev_isL x && ev_has L (n + 1) then some (pc + d, ev_zset2 L n x, r) else none
  | [] => none
theorem ev_zstL_ok (d n pc : Nat) (L st : List Nat) : ev_zstL d n pc L st = ev_stL d n pc L st := by unfold ev_zstL ev_stL; simp only [ev_has_ok, ev_zset2_ok]; rfl
noncomputable def ev_zstR (d n pc : Nat) (L st : List Nat) : Option ev_F := match st with
  | x :: r => bif (ev_isR x || ev_isN x) && ev_has L n then some (pc + d, ev_zset1 L n x, r) else none
  | [] => none
theorem ev_zstR_ok (d n pc : Nat) (L st : List Nat) : ev_zstR d n pc L st = ev_stR d n pc L st := by unfold ev_zstR ev_stR; simp only [ev_has_ok, ev_zset1_ok]; rfl
noncomputable def ev_ziinc (n a pc : Nat) (L st : List Nat) : Option ev_F := match ev_gt L n with
  | some x => bif ev_isI x then some (pc + 3, ev_zset1 L n (ev_oAdd x a), st) else none
  | none => none
noncomputable def ev_zgf (a b pc : Nat) (L st : List Nat) (h : ev_H) (nc ns : Nat) : Option ev_G := match st with
  | r :: st' => match ev_zo h r with
    | some (k0, n0, A0) => bif Nat.beq k0 a && Nat.blt b n0 then some ((pc + 3, L, ev_at A0 b :: st'), h, nc, ns) else none
    | none => none
  | _ => none
noncomputable def ev_zpf (nr a b t pc : Nat) (L st : List Nat) (h : ev_H) (nc ns : Nat) : Option ev_G := match st with
  | v :: r :: st' => match ev_zo h r with
    | some (k0, n0, A0) => bif Nat.beq k0 a && Nat.blt b n0 && Nat.ble nr (r - 36893488147419103232) && ev_fit t v then some ((pc + 3, L, st'), ev_put h (r - 36893488147419103232) (k0, n0, ev_up A0 b v), nc, ns) else none
    | none => none
  | _ => none
noncomputable def ev_zix (k : Nat) (h : ev_H) (j r : Nat) : Option Nat := match ev_zo h r with
  | some (k0, n0, A0) => bif Nat.beq k0 k && ev_isI j && Nat.blt j n0 && Nat.blt n0 2147483648 then some (ev_at A0 j) else none
  | none => none
theorem ev_zix_ok (k : Nat) (h : ev_H) (j r : Nat) : ev_zix k h j r = ev_ix k h j r := by
  unfold ev_zix ev_ix
  rw [ev_zo_ok]
  cases ev_o h r <;> rfl
noncomputable def ev_zwr (k nr : Nat) (h : ev_H) (j r v : Nat) : Option ev_H := match ev_zo h r with
  | some (k0, n0, A0) => bif Nat.beq k0 k && ev_isI j && Nat.blt j n0 && Nat.blt n0 2147483648 && Nat.ble nr (r - 36893488147419103232) then some (ev_put h (r - 36893488147419103232) (k0, n0, ev_up A0 j v)) else none
  | none => none
theorem ev_zwr_ok (k nr : Nat) (h : ev_H) (j r v : Nat) : ev_zwr k nr h j r v = ev_wr k nr h j r v := by
  unfold ev_zwr ev_wr
  simp only [ev_zo_ok, ev_put_ok]
  cases ev_o h r <;> rfl
noncomputable def ev_zrdI (k pc : Nat) (L st : List Nat) (h : ev_H) (nc ns : Nat) : Option ev_G := match st with
  | j :: r :: st' => match ev_zix k h j r with
    | some v => some ((pc + 1, L, v :: st'), h, nc, ns)
    | none => none
  | _ => none
theorem ev_zrdI_ok (k pc : Nat) (L st : List Nat) (h : ev_H) (nc ns : Nat) : ev_zrdI k pc L st h nc ns = ev_rdI k pc L st h nc ns := by unfold ev_zrdI ev_rdI; simp only [ev_zix_ok]; rfl
noncomputable def ev_zias (nr pc : Nat) (L st : List Nat) (h : ev_H) (nc ns : Nat) : Option ev_G := match st with
  | v :: j :: r :: st' => bif ev_isI v then (match ev_zwr 1000 nr h j r v with
    | some h' => some ((pc + 1, L, st'), h', nc, ns)
    | none => none) else none
  | _ => none
noncomputable def ev_zisZ (h : ev_H) (st : List Nat) : Bool := match st with
  | r :: _ => (match ev_zo h r with
    | some x => Nat.beq x.1 1002
    | none => false)
  | [] => false
theorem ev_zisZ_ok (h : ev_H) (st : List Nat) : ev_zisZ h st = ev_isZ h st := by unfold ev_zisZ ev_isZ; simp only [ev_zo_ok]; rfl
noncomputable def ev_zbas (nr pc : Nat) (L st : List Nat) (h : ev_H) (nc ns : Nat) : Option ev_G := match st with
  | v :: j :: r :: st' => bif ev_zisZ h (r :: st') then
        (bif Nat.blt v 2 then (match ev_zwr 1002 nr h j r v with
        | some h' => some ((pc + 1, L, st'), h', nc, ns)
        | none => none) else none)
        else bif ev_isI v then (match ev_zwr 1001 nr h j r (ev_b8 v) with
        | some h' => some ((pc + 1, L, st'), h', nc, ns)
        | none => none) else none
  | _ => none
noncomputable def ev_zbal (pc : Nat) (L st : List Nat) (h : ev_H) (nc ns : Nat) : Option ev_G := bif ev_zisZ h st.tail then ev_zrdI 1002 pc L st h nc ns else ev_zrdI 1001 pc L st h nc ns
/-- the first n of a stack turned round, before what follows; what is left -/
noncomputable def ev_tk (n : Nat) : List Nat → List Nat → Option (List Nat × List Nat) := Nat.rec (fun acc st => some (acc, st)) (fun _ ih acc st => match st with
  | x :: r => ih (x :: acc) r
  | [] => none) n
theorem ev_tk_ok : ∀ (n : Nat) (acc st : List Nat), n ≤ st.length → ev_tk n acc st = some ((st.take n).reverse ++ acc, st.drop n)
  | 0, acc, st, _ => by rw [List.take_zero, List.drop_zero]; rfl
  | n + 1, acc, [], h => by simp at h
  | n + 1, acc, x :: r, h => by
    have e : ev_tk (n + 1) acc (x :: r) = ev_tk n (x :: acc) r := rfl
    rw [e, ev_tk_ok n (x :: acc) r (by simpa using h)]
    simp
theorem ev_tk_no : ∀ (n : Nat) (acc st : List Nat), ¬ n ≤ st.length → ev_tk n acc st = none
  | 0, acc, st, h => absurd (Nat.zero_le _) h
  | n + 1, acc, [], _ => rfl
  | n + 1, acc, x :: r, h => by
    have e : ev_tk (n + 1) acc (x :: r) = ev_tk n (x :: acc) r := rfl
    rw [e]
    exact ev_tk_no n _ _ (by simpa using h)
noncomputable def ev_zinv (callf : Nat → List Nat → ev_H → Option ev_A) (mid n pc : Nat) (L st : List Nat) (h : ev_H) (nc ns : Nat) : Option ev_G := match ev_tk n [] st with
  | some (q1, q2) => bif Nat.ble (ev_cat q2) 8 then
    (match callf mid q1 h with
    | some (some r, h', mc, ms) => some ((pc + 3, L, r :: q2), h', nc + mc, ns + ms)
    | some (none, h', mc, ms) => some ((pc + 3, L, q2), h', nc + mc, ns + ms)
    | none => none) else none
  | none => none
theorem ev_zinv_ok (callf : Nat → List Nat → ev_H → Option ev_A) (mid n pc : Nat) (L st : List Nat) (h : ev_H) (nc ns : Nat) : ev_zinv callf mid n pc L st h nc ns = ev_inv callf mid n pc L st h nc ns := by
  unfold ev_zinv ev_inv
  by_cases hn : n ≤ st.length
  · rw [ev_tk_ok n [] st hn, Nat.ble_eq_true_of_le hn]
    simp only [List.append_nil, Bool.true_and]
    rfl
  · rw [ev_tk_no n [] st hn]
    have : Nat.ble n st.length = false := by
      cases hq : Nat.ble n st.length
      · rfl
      · exact absurd (Nat.le_of_ble_eq_true hq) hn
    rw [this]
    rfl
noncomputable def ev_ziv (callf : Nat → List Nat → ev_H → Option ev_A) (a b t pc : Nat) (L st : List Nat) (h : ev_H) (nc ns : Nat) : Option ev_G := match ev_gt st (b - 1) with
  | some r => (match ev_zo h r with
    | some x => bif Nat.beq x.1 t && Nat.blt 0 b then ev_zinv callf a b pc L st h nc ns else none
    | none => none)
  | none => none
theorem ev_ziv_ok (callf : Nat → List Nat → ev_H → Option ev_A) (a b t pc : Nat) (L st : List Nat) (h : ev_H) (nc ns : Nat) (g : ev_G) (hx : ev_ziv callf a b t pc L st h nc ns = some g) : (match st.drop (b - 1) with
  | r :: _ => (match ev_o h r with
    | some x => bif Nat.beq x.1 t && Nat.blt 0 b then ev_inv callf a b pc L st h nc ns else none
    | none => none)
  | [] => none) = some g := by
  unfold ev_ziv at hx
  rw [ev_gt_ok] at hx
  cases hg : st[b - 1]? with
  | none => rw [hg] at hx; cases hx
  | some r =>
    rw [hg] at hx
    have hd : st.drop (b - 1) = r :: st.drop (b - 1 + 1) := by
      obtain ⟨h1, h2⟩ := List.getElem?_eq_some_iff.mp hg
      rw [← h2]
      exact List.drop_eq_getElem_cons h1
    rw [hd]
    simp only [ev_zo_ok, ev_zinv_ok] at hx
    exact hx
end
section
/-! ===== 06b: the evaluator with a quick dispatch (by wip/whole/gen_disp.py): the same answers, fewer steps of the kernel ===== -/
def ev_w1 (f : Option ev_F) (h : ev_H) (nc ns : Nat) : Option ev_G := match f with
  | some f => some (f, h, nc, ns)
  | none => none
def ev_q_l2i (pc : Nat) (L st : List Nat) : Option ev_F := match st with
  | x :: r => bif ev_isL x then some (pc + 1, L, ev_oL2i x :: r) else none
  | _ => none
def ev_q_lushr (pc : Nat) (L st : List Nat) : Option ev_F := match st with
  | y :: x :: r => bif ev_isI y && ev_isL x then some (pc + 1, L, ev_oUshL x y :: r) else none
  | _ => none
def ev_q_dup (pc : Nat) (L st : List Nat) : Option ev_F := match st with
  | x :: r => bif ev_isL x then none else some (pc + 1, L, x :: x :: r)
  | _ => none
def ev_q_iinc (n a pc : Nat) (L st : List Nat) : Option ev_F := match L[n]? with
  | some x => bif ev_isI x && Nat.blt n L.length then some (pc + 3, ev_set1 L n (ev_oAdd x a), st) else none
  | none => none
def ev_q_if (c : Jvm.ClassFile.Cond) (a pc : Nat) (L st : List Nat) : Option ev_F := match st with
  | x :: r => ev_pI x pc a L r (ev_if c x)
  | _ => none
def ev_q_ic (c : Jvm.ClassFile.Cond) (a pc : Nat) (L st : List Nat) : Option ev_F := match st with
  | y :: x :: r => bif ev_isI y then ev_pI x pc a L r (ev_ic c x y) else none
  | _ => none
def ev_q_gf (a b pc : Nat) (L st : List Nat) (h : ev_H) (nc ns : Nat) : Option ev_G := match st with
  | r :: st' => match ev_o h r with
    | some x => bif Nat.beq x.1 a && Nat.blt b x.2.1 then some ((pc + 3, L, ev_at x.2.2 b :: st'), h, nc, ns) else none
    | none => none
  | _ => none
def ev_q_pf (nr a b t pc : Nat) (L st : List Nat) (h : ev_H) (nc ns : Nat) : Option ev_G := match st with
  | v :: r :: st' => match ev_o h r with
    | some x => bif Nat.beq x.1 a && Nat.blt b x.2.1 && Nat.ble nr (r - 36893488147419103232) && ev_fit t v then some ((pc + 3, L, st'), h.set (r - 36893488147419103232) (x.1, x.2.1, ev_up x.2.2 b v), nc, ns) else none
    | none => none
  | _ => none
def ev_q_ias (nr pc : Nat) (L st : List Nat) (h : ev_H) (nc ns : Nat) : Option ev_G := match st with
  | v :: j :: r :: st' => bif ev_isI v then (match ev_wr 1000 nr h j r v with
    | some h' => some ((pc + 1, L, st'), h', nc, ns)
    | none => none) else none
  | _ => none
def ev_q_iv (callf : Nat → List Nat → ev_H → Option ev_A) (a b t pc : Nat) (L st : List Nat) (h : ev_H) (nc ns : Nat) : Option ev_G := match st.drop (b - 1) with
  | r :: _ => (match ev_o h r with
    | some x => bif Nat.beq x.1 t && Nat.blt 0 b then ev_inv callf a b pc L st h nc ns else none
    | none => none)
  | [] => none
theorem ev_ziinc_ok (n a pc : Nat) (L st : List Nat) : ev_ziinc n a pc L st = ev_q_iinc n a pc L st := by
  unfold ev_ziinc ev_q_iinc
  simp only [ev_gt_ok, ev_zset1_ok]
  cases h : L[n]? with
  | none => rfl
  | some x =>
    have := (List.getElem?_eq_some_iff.mp h).1
    simp only [Nat.blt_eq.mpr this, Bool.and_true]
theorem ev_zgf_ok (a b pc : Nat) (L st : List Nat) (h : ev_H) (nc ns : Nat) : ev_zgf a b pc L st h nc ns = ev_q_gf a b pc L st h nc ns := by
  unfold ev_zgf ev_q_gf
  simp only [ev_zo_ok]
  cases st with
  | nil => rfl
  | cons r st1 => dsimp only; cases ev_o h r <;> rfl
theorem ev_zpf_ok (nr a b t pc : Nat) (L st : List Nat) (h : ev_H) (nc ns : Nat) : ev_zpf nr a b t pc L st h nc ns = ev_q_pf nr a b t pc L st h nc ns := by
  unfold ev_zpf ev_q_pf
  simp only [ev_zo_ok, ev_put_ok]
  cases st with
  | nil => rfl
  | cons v st1 => cases st1 with
    | nil => rfl
    | cons r st2 => dsimp only; cases ev_o h r <;> rfl
theorem ev_zias_ok (nr pc : Nat) (L st : List Nat) (h : ev_H) (nc ns : Nat) : ev_zias nr pc L st h nc ns = ev_q_ias nr pc L st h nc ns := by unfold ev_zias ev_q_ias; simp only [ev_zwr_ok]; rfl
noncomputable def ev_x0 (nr : Nat) (dfl : Nat → Nat) (callf : Nat → List Nat → ev_H → Option ev_A) (k n a b t : Nat) (i : Instr) (pc : Nat) (L st : List Nat) (h : ev_H) (nc ns : Nat) : Option ev_G := bif Nat.blt k 2 then ev_w1 (ev_zldI 1 n pc L st) h nc ns else ev_w1 (ev_zldL 2 n pc L st) h nc ns
noncomputable def ev_x1 (nr : Nat) (dfl : Nat → Nat) (callf : Nat → List Nat → ev_H → Option ev_A) (k n a b t : Nat) (i : Instr) (pc : Nat) (L st : List Nat) (h : ev_H) (nc ns : Nat) : Option ev_G := bif Nat.blt k 1 then ev_w1 (ev_zldI 2 n pc L st) h nc ns else ev_x0 nr dfl callf k n a b t i pc L st h nc ns
noncomputable def ev_x2 (nr : Nat) (dfl : Nat → Nat) (callf : Nat → List Nat → ev_H → Option ev_A) (k n a b t : Nat) (i : Instr) (pc : Nat) (L st : List Nat) (h : ev_H) (nc ns : Nat) : Option ev_G := bif Nat.blt k 4 then ev_w1 (ev_zldL 1 n pc L st) h nc ns else ev_w1 (ev_zldR 2 n pc L st) h nc ns
noncomputable def ev_x3 (nr : Nat) (dfl : Nat → Nat) (callf : Nat → List Nat → ev_H → Option ev_A) (k n a b t : Nat) (i : Instr) (pc : Nat) (L st : List Nat) (h : ev_H) (nc ns : Nat) : Option ev_G := bif Nat.blt k 6 then ev_w1 (ev_zldR 1 n pc L st) h nc ns else ev_w1 (ev_zstI 2 n pc L st) h nc ns
noncomputable def ev_x4 (nr : Nat) (dfl : Nat → Nat) (callf : Nat → List Nat → ev_H → Option ev_A) (k n a b t : Nat) (i : Instr) (pc : Nat) (L st : List Nat) (h : ev_H) (nc ns : Nat) : Option ev_G := bif Nat.blt k 5 then ev_x2 nr dfl callf k n a b t i pc L st h nc ns else ev_x3 nr dfl callf k n a b t i pc L st h nc ns
noncomputable def ev_x5 (nr : Nat) (dfl : Nat → Nat) (callf : Nat → List Nat → ev_H → Option ev_A) (k n a b t : Nat) (i : Instr) (pc : Nat) (L st : List Nat) (h : ev_H) (nc ns : Nat) : Option ev_G := bif Nat.blt k 3 then ev_x1 nr dfl callf k n a b t i pc L st h nc ns else ev_x4 nr dfl callf k n a b t i pc L st h nc ns
noncomputable def ev_x6 (nr : Nat) (dfl : Nat → Nat) (callf : Nat → List Nat → ev_H → Option ev_A) (k n a b t : Nat) (i : Instr) (pc : Nat) (L st : List Nat) (h : ev_H) (nc ns : Nat) : Option ev_G := bif Nat.blt k 9 then ev_w1 (ev_zstL 2 n pc L st) h nc ns else ev_w1 (ev_zstL 1 n pc L st) h nc ns
noncomputable def ev_x7 (nr : Nat) (dfl : Nat → Nat) (callf : Nat → List Nat → ev_H → Option ev_A) (k n a b t : Nat) (i : Instr) (pc : Nat) (L st : List Nat) (h : ev_H) (nc ns : Nat) : Option ev_G := bif Nat.blt k 8 then ev_w1 (ev_zstI 1 n pc L st) h nc ns else ev_x6 nr dfl callf k n a b t i pc L st h nc ns
noncomputable def ev_x8 (nr : Nat) (dfl : Nat → Nat) (callf : Nat → List Nat → ev_H → Option ev_A) (k n a b t : Nat) (i : Instr) (pc : Nat) (L st : List Nat) (h : ev_H) (nc ns : Nat) : Option ev_G := bif Nat.blt k 11 then ev_w1 (ev_zstR 2 n pc L st) h nc ns else ev_w1 (ev_zstR 1 n pc L st) h nc ns
noncomputable def ev_x9 (nr : Nat) (dfl : Nat → Nat) (callf : Nat → List Nat → ev_H → Option ev_A) (k n a b t : Nat) (i : Instr) (pc : Nat) (L st : List Nat) (h : ev_H) (nc ns : Nat) : Option ev_G := bif Nat.blt k 13 then some ((pc + 1, L, a :: st), h, nc, ns) else some ((pc + 2, L, a :: st), h, nc, ns)
noncomputable def ev_x10 (nr : Nat) (dfl : Nat → Nat) (callf : Nat → List Nat → ev_H → Option ev_A) (k n a b t : Nat) (i : Instr) (pc : Nat) (L st : List Nat) (h : ev_H) (nc ns : Nat) : Option ev_G := bif Nat.blt k 12 then ev_x8 nr dfl callf k n a b t i pc L st h nc ns else ev_x9 nr dfl callf k n a b t i pc L st h nc ns
noncomputable def ev_x11 (nr : Nat) (dfl : Nat → Nat) (callf : Nat → List Nat → ev_H → Option ev_A) (k n a b t : Nat) (i : Instr) (pc : Nat) (L st : List Nat) (h : ev_H) (nc ns : Nat) : Option ev_G := bif Nat.blt k 10 then ev_x7 nr dfl callf k n a b t i pc L st h nc ns else ev_x10 nr dfl callf k n a b t i pc L st h nc ns
noncomputable def ev_x12 (nr : Nat) (dfl : Nat → Nat) (callf : Nat → List Nat → ev_H → Option ev_A) (k n a b t : Nat) (i : Instr) (pc : Nat) (L st : List Nat) (h : ev_H) (nc ns : Nat) : Option ev_G := bif Nat.blt k 7 then ev_x5 nr dfl callf k n a b t i pc L st h nc ns else ev_x11 nr dfl callf k n a b t i pc L st h nc ns
noncomputable def ev_x13 (nr : Nat) (dfl : Nat → Nat) (callf : Nat → List Nat → ev_H → Option ev_A) (k n a b t : Nat) (i : Instr) (pc : Nat) (L st : List Nat) (h : ev_H) (nc ns : Nat) : Option ev_G := bif Nat.blt k 16 then some ((pc + 1, L, ev_oLc n :: st), h, nc, ns) else ev_w1 (ev_binI pc L st ev_oAdd) h nc ns
noncomputable def ev_x14 (nr : Nat) (dfl : Nat → Nat) (callf : Nat → List Nat → ev_H → Option ev_A) (k n a b t : Nat) (i : Instr) (pc : Nat) (L st : List Nat) (h : ev_H) (nc ns : Nat) : Option ev_G := bif Nat.blt k 15 then some ((pc + 3, L, a :: st), h, nc, ns) else ev_x13 nr dfl callf k n a b t i pc L st h nc ns
noncomputable def ev_x15 (nr : Nat) (dfl : Nat → Nat) (callf : Nat → List Nat → ev_H → Option ev_A) (k n a b t : Nat) (i : Instr) (pc : Nat) (L st : List Nat) (h : ev_H) (nc ns : Nat) : Option ev_G := bif Nat.blt k 18 then ev_w1 (ev_binI pc L st ev_oSub) h nc ns else ev_w1 (ev_binI pc L st ev_oMul) h nc ns
noncomputable def ev_x16 (nr : Nat) (dfl : Nat → Nat) (callf : Nat → List Nat → ev_H → Option ev_A) (k n a b t : Nat) (i : Instr) (pc : Nat) (L st : List Nat) (h : ev_H) (nc ns : Nat) : Option ev_G := bif Nat.blt k 20 then ev_w1 (ev_binI pc L st ev_oAnd) h nc ns else ev_w1 (ev_binI pc L st ev_oOr) h nc ns
noncomputable def ev_x17 (nr : Nat) (dfl : Nat → Nat) (callf : Nat → List Nat → ev_H → Option ev_A) (k n a b t : Nat) (i : Instr) (pc : Nat) (L st : List Nat) (h : ev_H) (nc ns : Nat) : Option ev_G := bif Nat.blt k 19 then ev_x15 nr dfl callf k n a b t i pc L st h nc ns else ev_x16 nr dfl callf k n a b t i pc L st h nc ns
noncomputable def ev_x18 (nr : Nat) (dfl : Nat → Nat) (callf : Nat → List Nat → ev_H → Option ev_A) (k n a b t : Nat) (i : Instr) (pc : Nat) (L st : List Nat) (h : ev_H) (nc ns : Nat) : Option ev_G := bif Nat.blt k 17 then ev_x14 nr dfl callf k n a b t i pc L st h nc ns else ev_x17 nr dfl callf k n a b t i pc L st h nc ns
noncomputable def ev_x19 (nr : Nat) (dfl : Nat → Nat) (callf : Nat → List Nat → ev_H → Option ev_A) (k n a b t : Nat) (i : Instr) (pc : Nat) (L st : List Nat) (h : ev_H) (nc ns : Nat) : Option ev_G := bif Nat.blt k 22 then ev_w1 (ev_binI pc L st ev_oXor) h nc ns else ev_w1 (ev_binI pc L st ev_oUsh) h nc ns
noncomputable def ev_x20 (nr : Nat) (dfl : Nat → Nat) (callf : Nat → List Nat → ev_H → Option ev_A) (k n a b t : Nat) (i : Instr) (pc : Nat) (L st : List Nat) (h : ev_H) (nc ns : Nat) : Option ev_G := bif Nat.blt k 24 then ev_w1 (ev_unI pc L st ev_oNeg) h nc ns else ev_w1 (ev_unI pc L st ev_b8) h nc ns
noncomputable def ev_x21 (nr : Nat) (dfl : Nat → Nat) (callf : Nat → List Nat → ev_H → Option ev_A) (k n a b t : Nat) (i : Instr) (pc : Nat) (L st : List Nat) (h : ev_H) (nc ns : Nat) : Option ev_G := bif Nat.blt k 23 then ev_x19 nr dfl callf k n a b t i pc L st h nc ns else ev_x20 nr dfl callf k n a b t i pc L st h nc ns
noncomputable def ev_x22 (nr : Nat) (dfl : Nat → Nat) (callf : Nat → List Nat → ev_H → Option ev_A) (k n a b t : Nat) (i : Instr) (pc : Nat) (L st : List Nat) (h : ev_H) (nc ns : Nat) : Option ev_G := bif Nat.blt k 26 then ev_w1 (ev_unI pc L st ev_oI2c) h nc ns else ev_w1 (ev_unI pc L st ev_oI2l) h nc ns
noncomputable def ev_x23 (nr : Nat) (dfl : Nat → Nat) (callf : Nat → List Nat → ev_H → Option ev_A) (k n a b t : Nat) (i : Instr) (pc : Nat) (L st : List Nat) (h : ev_H) (nc ns : Nat) : Option ev_G := bif Nat.blt k 28 then ev_w1 (ev_binL pc L st ev_oAddL) h nc ns else ev_w1 (ev_binL pc L st ev_oSubL) h nc ns
noncomputable def ev_x24 (nr : Nat) (dfl : Nat → Nat) (callf : Nat → List Nat → ev_H → Option ev_A) (k n a b t : Nat) (i : Instr) (pc : Nat) (L st : List Nat) (h : ev_H) (nc ns : Nat) : Option ev_G := bif Nat.blt k 27 then ev_x22 nr dfl callf k n a b t i pc L st h nc ns else ev_x23 nr dfl callf k n a b t i pc L st h nc ns
noncomputable def ev_x25 (nr : Nat) (dfl : Nat → Nat) (callf : Nat → List Nat → ev_H → Option ev_A) (k n a b t : Nat) (i : Instr) (pc : Nat) (L st : List Nat) (h : ev_H) (nc ns : Nat) : Option ev_G := bif Nat.blt k 25 then ev_x21 nr dfl callf k n a b t i pc L st h nc ns else ev_x24 nr dfl callf k n a b t i pc L st h nc ns
noncomputable def ev_x26 (nr : Nat) (dfl : Nat → Nat) (callf : Nat → List Nat → ev_H → Option ev_A) (k n a b t : Nat) (i : Instr) (pc : Nat) (L st : List Nat) (h : ev_H) (nc ns : Nat) : Option ev_G := bif Nat.blt k 21 then ev_x18 nr dfl callf k n a b t i pc L st h nc ns else ev_x25 nr dfl callf k n a b t i pc L st h nc ns
noncomputable def ev_x27 (nr : Nat) (dfl : Nat → Nat) (callf : Nat → List Nat → ev_H → Option ev_A) (k n a b t : Nat) (i : Instr) (pc : Nat) (L st : List Nat) (h : ev_H) (nc ns : Nat) : Option ev_G := bif Nat.blt k 14 then ev_x12 nr dfl callf k n a b t i pc L st h nc ns else ev_x26 nr dfl callf k n a b t i pc L st h nc ns
noncomputable def ev_x28 (nr : Nat) (dfl : Nat → Nat) (callf : Nat → List Nat → ev_H → Option ev_A) (k n a b t : Nat) (i : Instr) (pc : Nat) (L st : List Nat) (h : ev_H) (nc ns : Nat) : Option ev_G := bif Nat.blt k 31 then ev_w1 (ev_binL pc L st ev_oAndL) h nc ns else ev_w1 (ev_binL pc L st ev_oXorL) h nc ns
noncomputable def ev_x29 (nr : Nat) (dfl : Nat → Nat) (callf : Nat → List Nat → ev_H → Option ev_A) (k n a b t : Nat) (i : Instr) (pc : Nat) (L st : List Nat) (h : ev_H) (nc ns : Nat) : Option ev_G := bif Nat.blt k 30 then ev_w1 (ev_binL pc L st ev_oMulL) h nc ns else ev_x28 nr dfl callf k n a b t i pc L st h nc ns
noncomputable def ev_x30 (nr : Nat) (dfl : Nat → Nat) (callf : Nat → List Nat → ev_H → Option ev_A) (k n a b t : Nat) (i : Instr) (pc : Nat) (L st : List Nat) (h : ev_H) (nc ns : Nat) : Option ev_G := bif Nat.blt k 33 then ev_w1 (ev_binL pc L st ev_oCmpL) h nc ns else ev_w1 (ev_q_l2i pc L st) h nc ns
noncomputable def ev_x31 (nr : Nat) (dfl : Nat → Nat) (callf : Nat → List Nat → ev_H → Option ev_A) (k n a b t : Nat) (i : Instr) (pc : Nat) (L st : List Nat) (h : ev_H) (nc ns : Nat) : Option ev_G := bif Nat.blt k 35 then ev_w1 (ev_q_lushr pc L st) h nc ns else ev_w1 (ev_q_dup pc L st) h nc ns
noncomputable def ev_x32 (nr : Nat) (dfl : Nat → Nat) (callf : Nat → List Nat → ev_H → Option ev_A) (k n a b t : Nat) (i : Instr) (pc : Nat) (L st : List Nat) (h : ev_H) (nc ns : Nat) : Option ev_G := bif Nat.blt k 34 then ev_x30 nr dfl callf k n a b t i pc L st h nc ns else ev_x31 nr dfl callf k n a b t i pc L st h nc ns
noncomputable def ev_x33 (nr : Nat) (dfl : Nat → Nat) (callf : Nat → List Nat → ev_H → Option ev_A) (k n a b t : Nat) (i : Instr) (pc : Nat) (L st : List Nat) (h : ev_H) (nc ns : Nat) : Option ev_G := bif Nat.blt k 32 then ev_x29 nr dfl callf k n a b t i pc L st h nc ns else ev_x32 nr dfl callf k n a b t i pc L st h nc ns
noncomputable def ev_x34 (nr : Nat) (dfl : Nat → Nat) (callf : Nat → List Nat → ev_H → Option ev_A) (k n a b t : Nat) (i : Instr) (pc : Nat) (L st : List Nat) (h : ev_H) (nc ns : Nat) : Option ev_G := bif Nat.blt k 37 then ev_w1 (ev_ziinc n a pc L st) h nc ns else some ((a, L, st), h, nc, ns)
noncomputable def ev_x35 (nr : Nat) (dfl : Nat → Nat) (callf : Nat → List Nat → ev_H → Option ev_A) (k n a b t : Nat) (i : Instr) (pc : Nat) (L st : List Nat) (h : ev_H) (nc ns : Nat) : Option ev_G := bif Nat.blt k 39 then ev_w1 (ev_q_if .eq a pc L st) h nc ns else ev_w1 (ev_q_if .ne a pc L st) h nc ns
noncomputable def ev_x36 (nr : Nat) (dfl : Nat → Nat) (callf : Nat → List Nat → ev_H → Option ev_A) (k n a b t : Nat) (i : Instr) (pc : Nat) (L st : List Nat) (h : ev_H) (nc ns : Nat) : Option ev_G := bif Nat.blt k 38 then ev_x34 nr dfl callf k n a b t i pc L st h nc ns else ev_x35 nr dfl callf k n a b t i pc L st h nc ns
noncomputable def ev_x37 (nr : Nat) (dfl : Nat → Nat) (callf : Nat → List Nat → ev_H → Option ev_A) (k n a b t : Nat) (i : Instr) (pc : Nat) (L st : List Nat) (h : ev_H) (nc ns : Nat) : Option ev_G := bif Nat.blt k 41 then ev_w1 (ev_q_if .lt a pc L st) h nc ns else ev_w1 (ev_q_if .ge a pc L st) h nc ns
noncomputable def ev_x38 (nr : Nat) (dfl : Nat → Nat) (callf : Nat → List Nat → ev_H → Option ev_A) (k n a b t : Nat) (i : Instr) (pc : Nat) (L st : List Nat) (h : ev_H) (nc ns : Nat) : Option ev_G := bif Nat.blt k 43 then ev_w1 (ev_q_if .gt a pc L st) h nc ns else ev_w1 (ev_q_if .le a pc L st) h nc ns
noncomputable def ev_x39 (nr : Nat) (dfl : Nat → Nat) (callf : Nat → List Nat → ev_H → Option ev_A) (k n a b t : Nat) (i : Instr) (pc : Nat) (L st : List Nat) (h : ev_H) (nc ns : Nat) : Option ev_G := bif Nat.blt k 42 then ev_x37 nr dfl callf k n a b t i pc L st h nc ns else ev_x38 nr dfl callf k n a b t i pc L st h nc ns
noncomputable def ev_x40 (nr : Nat) (dfl : Nat → Nat) (callf : Nat → List Nat → ev_H → Option ev_A) (k n a b t : Nat) (i : Instr) (pc : Nat) (L st : List Nat) (h : ev_H) (nc ns : Nat) : Option ev_G := bif Nat.blt k 40 then ev_x36 nr dfl callf k n a b t i pc L st h nc ns else ev_x39 nr dfl callf k n a b t i pc L st h nc ns
noncomputable def ev_x41 (nr : Nat) (dfl : Nat → Nat) (callf : Nat → List Nat → ev_H → Option ev_A) (k n a b t : Nat) (i : Instr) (pc : Nat) (L st : List Nat) (h : ev_H) (nc ns : Nat) : Option ev_G := bif Nat.blt k 36 then ev_x33 nr dfl callf k n a b t i pc L st h nc ns else ev_x40 nr dfl callf k n a b t i pc L st h nc ns
noncomputable def ev_x42 (nr : Nat) (dfl : Nat → Nat) (callf : Nat → List Nat → ev_H → Option ev_A) (k n a b t : Nat) (i : Instr) (pc : Nat) (L st : List Nat) (h : ev_H) (nc ns : Nat) : Option ev_G := bif Nat.blt k 46 then ev_w1 (ev_q_ic .ne a pc L st) h nc ns else ev_w1 (ev_q_ic .lt a pc L st) h nc ns
noncomputable def ev_x43 (nr : Nat) (dfl : Nat → Nat) (callf : Nat → List Nat → ev_H → Option ev_A) (k n a b t : Nat) (i : Instr) (pc : Nat) (L st : List Nat) (h : ev_H) (nc ns : Nat) : Option ev_G := bif Nat.blt k 45 then ev_w1 (ev_q_ic .eq a pc L st) h nc ns else ev_x42 nr dfl callf k n a b t i pc L st h nc ns
noncomputable def ev_x44 (nr : Nat) (dfl : Nat → Nat) (callf : Nat → List Nat → ev_H → Option ev_A) (k n a b t : Nat) (i : Instr) (pc : Nat) (L st : List Nat) (h : ev_H) (nc ns : Nat) : Option ev_G := bif Nat.blt k 48 then ev_w1 (ev_q_ic .ge a pc L st) h nc ns else ev_w1 (ev_q_ic .gt a pc L st) h nc ns
noncomputable def ev_x45 (nr : Nat) (dfl : Nat → Nat) (callf : Nat → List Nat → ev_H → Option ev_A) (k n a b t : Nat) (i : Instr) (pc : Nat) (L st : List Nat) (h : ev_H) (nc ns : Nat) : Option ev_G := bif Nat.blt k 50 then ev_w1 (ev_q_ic .le a pc L st) h nc ns else ev_zgf a b pc L st h nc ns
noncomputable def ev_x46 (nr : Nat) (dfl : Nat → Nat) (callf : Nat → List Nat → ev_H → Option ev_A) (k n a b t : Nat) (i : Instr) (pc : Nat) (L st : List Nat) (h : ev_H) (nc ns : Nat) : Option ev_G := bif Nat.blt k 49 then ev_x44 nr dfl callf k n a b t i pc L st h nc ns else ev_x45 nr dfl callf k n a b t i pc L st h nc ns
noncomputable def ev_x47 (nr : Nat) (dfl : Nat → Nat) (callf : Nat → List Nat → ev_H → Option ev_A) (k n a b t : Nat) (i : Instr) (pc : Nat) (L st : List Nat) (h : ev_H) (nc ns : Nat) : Option ev_G := bif Nat.blt k 47 then ev_x43 nr dfl callf k n a b t i pc L st h nc ns else ev_x46 nr dfl callf k n a b t i pc L st h nc ns
noncomputable def ev_x48 (nr : Nat) (dfl : Nat → Nat) (callf : Nat → List Nat → ev_H → Option ev_A) (k n a b t : Nat) (i : Instr) (pc : Nat) (L st : List Nat) (h : ev_H) (nc ns : Nat) : Option ev_G := bif Nat.blt k 52 then ev_zpf nr a b t pc L st h nc ns else ev_zrdI 1000 pc L st h nc ns
noncomputable def ev_x49 (nr : Nat) (dfl : Nat → Nat) (callf : Nat → List Nat → ev_H → Option ev_A) (k n a b t : Nat) (i : Instr) (pc : Nat) (L st : List Nat) (h : ev_H) (nc ns : Nat) : Option ev_G := bif Nat.blt k 54 then ev_zias nr pc L st h nc ns else ev_zbal pc L st h nc ns
noncomputable def ev_x50 (nr : Nat) (dfl : Nat → Nat) (callf : Nat → List Nat → ev_H → Option ev_A) (k n a b t : Nat) (i : Instr) (pc : Nat) (L st : List Nat) (h : ev_H) (nc ns : Nat) : Option ev_G := bif Nat.blt k 53 then ev_x48 nr dfl callf k n a b t i pc L st h nc ns else ev_x49 nr dfl callf k n a b t i pc L st h nc ns
noncomputable def ev_x51 (nr : Nat) (dfl : Nat → Nat) (callf : Nat → List Nat → ev_H → Option ev_A) (k n a b t : Nat) (i : Instr) (pc : Nat) (L st : List Nat) (h : ev_H) (nc ns : Nat) : Option ev_G := bif Nat.blt k 56 then ev_zbas nr pc L st h nc ns else ev_ziv callf a b t pc L st h nc ns
noncomputable def ev_x52 (nr : Nat) (dfl : Nat → Nat) (callf : Nat → List Nat → ev_H → Option ev_A) (k n a b t : Nat) (i : Instr) (pc : Nat) (L st : List Nat) (h : ev_H) (nc ns : Nat) : Option ev_G := bif Nat.blt k 58 then ev_zinv callf a b pc L st h nc ns else ev_step nr dfl callf i a b t pc L st h nc ns
noncomputable def ev_x53 (nr : Nat) (dfl : Nat → Nat) (callf : Nat → List Nat → ev_H → Option ev_A) (k n a b t : Nat) (i : Instr) (pc : Nat) (L st : List Nat) (h : ev_H) (nc ns : Nat) : Option ev_G := bif Nat.blt k 57 then ev_x51 nr dfl callf k n a b t i pc L st h nc ns else ev_x52 nr dfl callf k n a b t i pc L st h nc ns
noncomputable def ev_x54 (nr : Nat) (dfl : Nat → Nat) (callf : Nat → List Nat → ev_H → Option ev_A) (k n a b t : Nat) (i : Instr) (pc : Nat) (L st : List Nat) (h : ev_H) (nc ns : Nat) : Option ev_G := bif Nat.blt k 55 then ev_x50 nr dfl callf k n a b t i pc L st h nc ns else ev_x53 nr dfl callf k n a b t i pc L st h nc ns
noncomputable def ev_x55 (nr : Nat) (dfl : Nat → Nat) (callf : Nat → List Nat → ev_H → Option ev_A) (k n a b t : Nat) (i : Instr) (pc : Nat) (L st : List Nat) (h : ev_H) (nc ns : Nat) : Option ev_G := bif Nat.blt k 51 then ev_x47 nr dfl callf k n a b t i pc L st h nc ns else ev_x54 nr dfl callf k n a b t i pc L st h nc ns
noncomputable def ev_x56 (nr : Nat) (dfl : Nat → Nat) (callf : Nat → List Nat → ev_H → Option ev_A) (k n a b t : Nat) (i : Instr) (pc : Nat) (L st : List Nat) (h : ev_H) (nc ns : Nat) : Option ev_G := bif Nat.blt k 44 then ev_x41 nr dfl callf k n a b t i pc L st h nc ns else ev_x55 nr dfl callf k n a b t i pc L st h nc ns
noncomputable def ev_x57 (nr : Nat) (dfl : Nat → Nat) (callf : Nat → List Nat → ev_H → Option ev_A) (k n a b t : Nat) (i : Instr) (pc : Nat) (L st : List Nat) (h : ev_H) (nc ns : Nat) : Option ev_G := bif Nat.blt k 29 then ev_x27 nr dfl callf k n a b t i pc L st h nc ns else ev_x56 nr dfl callf k n a b t i pc L st h nc ns
noncomputable def ev_ex (nr : Nat) (dfl : Nat → Nat) (callf : Nat → List Nat → ev_H → Option ev_A) (k n a b t : Nat) (i : Instr) (pc : Nat) (L st : List Nat) (h : ev_H) (nc ns : Nat) : Option ev_G := ev_x57 nr dfl callf k n a b t i pc L st h nc ns
/-- does the number stand for the instruction, n for its own number? -/
def ev_ckx (i : Instr) (k n a pc : Nat) : Bool := match i with
  | .iload q => Nat.beq k 0 && Nat.beq q n
  | .iload_n q => Nat.beq k 1 && Nat.beq q.val n
  | .lload q => Nat.beq k 2 && Nat.beq q n
  | .lload_n q => Nat.beq k 3 && Nat.beq q.val n
  | .aload q => Nat.beq k 4 && Nat.beq q n
  | .aload_n q => Nat.beq k 5 && Nat.beq q.val n
  | .istore q => Nat.beq k 6 && Nat.beq q n
  | .istore_n q => Nat.beq k 7 && Nat.beq q.val n
  | .lstore q => Nat.beq k 8 && Nat.beq q n
  | .lstore_n q => Nat.beq k 9 && Nat.beq q.val n
  | .astore q => Nat.beq k 10 && Nat.beq q n
  | .astore_n q => Nat.beq k 11 && Nat.beq q.val n
  | .iconst q => Nat.beq k 12 && decide (Int32.ofInt q = nI a) && ev_isI a
  | .bipush q => Nat.beq k 13 && decide ((Int8.ofInt q).toInt32 = nI a) && ev_isI a
  | .sipush q => Nat.beq k 14 && decide ((Int16.ofInt q).toInt32 = nI a) && ev_isI a
  | .lconst q => Nat.beq k 15 && Nat.beq q.val n
  | .iadd => Nat.beq k 16
  | .isub => Nat.beq k 17
  | .imul => Nat.beq k 18
  | .iand => Nat.beq k 19
  | .ior => Nat.beq k 20
  | .ixor => Nat.beq k 21
  | .iushr => Nat.beq k 22
  | .ineg => Nat.beq k 23
  | .i2b => Nat.beq k 24
  | .i2c => Nat.beq k 25
  | .i2l => Nat.beq k 26
  | .ladd => Nat.beq k 27
  | .lsub => Nat.beq k 28
  | .lmul => Nat.beq k 29
  | .land => Nat.beq k 30
  | .lxor => Nat.beq k 31
  | .lcmp => Nat.beq k 32
  | .l2i => Nat.beq k 33
  | .lushr => Nat.beq k 34
  | .dup => Nat.beq k 35
  | .iinc q z => Nat.beq k 36 && Nat.beq q n && decide (nI a = Int32.ofInt z)
  | .goto q => Nat.beq k 37 && decide ((pc : Int) + q = (a : Int))
  | .ifCond .eq q => Nat.beq k 38 && decide ((pc : Int) + q = (a : Int))
  | .ifCond .ne q => Nat.beq k 39 && decide ((pc : Int) + q = (a : Int))
  | .ifCond .lt q => Nat.beq k 40 && decide ((pc : Int) + q = (a : Int))
  | .ifCond .ge q => Nat.beq k 41 && decide ((pc : Int) + q = (a : Int))
  | .ifCond .gt q => Nat.beq k 42 && decide ((pc : Int) + q = (a : Int))
  | .ifCond .le q => Nat.beq k 43 && decide ((pc : Int) + q = (a : Int))
  | .if_icmp .eq q => Nat.beq k 44 && decide ((pc : Int) + q = (a : Int))
  | .if_icmp .ne q => Nat.beq k 45 && decide ((pc : Int) + q = (a : Int))
  | .if_icmp .lt q => Nat.beq k 46 && decide ((pc : Int) + q = (a : Int))
  | .if_icmp .ge q => Nat.beq k 47 && decide ((pc : Int) + q = (a : Int))
  | .if_icmp .gt q => Nat.beq k 48 && decide ((pc : Int) + q = (a : Int))
  | .if_icmp .le q => Nat.beq k 49 && decide ((pc : Int) + q = (a : Int))
  | .getfield q => Nat.beq k 50
  | .putfield q => Nat.beq k 51
  | .iaload => Nat.beq k 52
  | .iastore => Nat.beq k 53
  | .baload => Nat.beq k 54
  | .bastore => Nat.beq k 55
  | .invokevirtual q => Nat.beq k 56
  | .invokestatic q => Nat.beq k 57
  | .return_ => Nat.beq k 1000
  | .ireturn => Nat.beq k 1000
  | .lreturn => Nat.beq k 1000
  | .areturn => Nat.beq k 1000
  | _ => Nat.beq k 58
def ev_isRet (i : Instr) : Bool := match i with
  | .return_ => true
  | .ireturn => true
  | .lreturn => true
  | .areturn => true
  | _ => false
theorem ev_ex_ok {nr : Nat} {dfl : Nat → Nat} {callf : Nat → List Nat → ev_H → Option ev_A} {k n a b t pc nc ns : Nat} {i : Instr} {L st : List Nat} {h : ev_H} {g : ev_G} (hret : ev_isRet i = false) (hc : ev_ckx i k n a pc = true) (hx : ev_ex nr dfl callf k n a b t i pc L st h nc ns = some g) : ev_step nr dfl callf i a b t pc L st h nc ns = some g := by
  cases i with
  | iload q =>
    simp only [ev_ckx, Bool.and_eq_true] at hc
    obtain ⟨h0, h1⟩ := hc
    obtain rfl := Nat.eq_of_beq_eq_true h0
    have e1 : ∀ i0 : Instr, ev_ex nr dfl callf 0 n a b t i0 pc L st h nc ns = ev_w1 (ev_zldI 2 n pc L st) h nc ns := fun _ => rfl
    rw [e1] at hx
    rw [ev_zldI_ok] at hx
    obtain rfl := Nat.eq_of_beq_eq_true h1
    simp only [ev_step, ev_stH, ev_stA]
    exact hx
  | iload_n q =>
    simp only [ev_ckx, Bool.and_eq_true] at hc
    obtain ⟨h0, h1⟩ := hc
    obtain rfl := Nat.eq_of_beq_eq_true h0
    have e1 : ∀ i0 : Instr, ev_ex nr dfl callf 1 n a b t i0 pc L st h nc ns = ev_w1 (ev_zldI 1 n pc L st) h nc ns := fun _ => rfl
    rw [e1] at hx
    rw [ev_zldI_ok] at hx
    obtain rfl := Nat.eq_of_beq_eq_true h1
    simp only [ev_step, ev_stH, ev_stA]
    exact hx
  | lload q =>
    simp only [ev_ckx, Bool.and_eq_true] at hc
    obtain ⟨h0, h1⟩ := hc
    obtain rfl := Nat.eq_of_beq_eq_true h0
    have e1 : ∀ i0 : Instr, ev_ex nr dfl callf 2 n a b t i0 pc L st h nc ns = ev_w1 (ev_zldL 2 n pc L st) h nc ns := fun _ => rfl
    rw [e1] at hx
    rw [ev_zldL_ok] at hx
    obtain rfl := Nat.eq_of_beq_eq_true h1
    simp only [ev_step, ev_stH, ev_stA]
    exact hx
  | lload_n q =>
    simp only [ev_ckx, Bool.and_eq_true] at hc
    obtain ⟨h0, h1⟩ := hc
    obtain rfl := Nat.eq_of_beq_eq_true h0
    have e1 : ∀ i0 : Instr, ev_ex nr dfl callf 3 n a b t i0 pc L st h nc ns = ev_w1 (ev_zldL 1 n pc L st) h nc ns := fun _ => rfl
    rw [e1] at hx
    rw [ev_zldL_ok] at hx
    obtain rfl := Nat.eq_of_beq_eq_true h1
    simp only [ev_step, ev_stH, ev_stA]
    exact hx
  | aload q =>
    simp only [ev_ckx, Bool.and_eq_true] at hc
    obtain ⟨h0, h1⟩ := hc
    obtain rfl := Nat.eq_of_beq_eq_true h0
    have e1 : ∀ i0 : Instr, ev_ex nr dfl callf 4 n a b t i0 pc L st h nc ns = ev_w1 (ev_zldR 2 n pc L st) h nc ns := fun _ => rfl
    rw [e1] at hx
    rw [ev_zldR_ok] at hx
    obtain rfl := Nat.eq_of_beq_eq_true h1
    simp only [ev_step, ev_stH, ev_stA]
    exact hx
  | aload_n q =>
    simp only [ev_ckx, Bool.and_eq_true] at hc
    obtain ⟨h0, h1⟩ := hc
    obtain rfl := Nat.eq_of_beq_eq_true h0
    have e1 : ∀ i0 : Instr, ev_ex nr dfl callf 5 n a b t i0 pc L st h nc ns = ev_w1 (ev_zldR 1 n pc L st) h nc ns := fun _ => rfl
    rw [e1] at hx
    rw [ev_zldR_ok] at hx
    obtain rfl := Nat.eq_of_beq_eq_true h1
    simp only [ev_step, ev_stH, ev_stA]
    exact hx
  | istore q =>
    simp only [ev_ckx, Bool.and_eq_true] at hc
    obtain ⟨h0, h1⟩ := hc
    obtain rfl := Nat.eq_of_beq_eq_true h0
    have e1 : ∀ i0 : Instr, ev_ex nr dfl callf 6 n a b t i0 pc L st h nc ns = ev_w1 (ev_zstI 2 n pc L st) h nc ns := fun _ => rfl
    rw [e1] at hx
    rw [ev_zstI_ok] at hx
    obtain rfl := Nat.eq_of_beq_eq_true h1
    simp only [ev_step, ev_stH, ev_stA]
    exact hx
  | istore_n q =>
    simp only [ev_ckx, Bool.and_eq_true] at hc
    obtain ⟨h0, h1⟩ := hc
    obtain rfl := Nat.eq_of_beq_eq_true h0
    have e1 : ∀ i0 : Instr, ev_ex nr dfl callf 7 n a b t i0 pc L st h nc ns = ev_w1 (ev_zstI 1 n pc L st) h nc ns := fun _ => rfl
    rw [e1] at hx
    rw [ev_zstI_ok] at hx
    obtain rfl := Nat.eq_of_beq_eq_true h1
    simp only [ev_step, ev_stH, ev_stA]
    exact hx
  | lstore q =>
    simp only [ev_ckx, Bool.and_eq_true] at hc
    obtain ⟨h0, h1⟩ := hc
    obtain rfl := Nat.eq_of_beq_eq_true h0
    have e1 : ∀ i0 : Instr, ev_ex nr dfl callf 8 n a b t i0 pc L st h nc ns = ev_w1 (ev_zstL 2 n pc L st) h nc ns := fun _ => rfl
    rw [e1] at hx
    rw [ev_zstL_ok] at hx
    obtain rfl := Nat.eq_of_beq_eq_true h1
    simp only [ev_step, ev_stH, ev_stA]
    exact hx
  | lstore_n q =>
    simp only [ev_ckx, Bool.and_eq_true] at hc
    obtain ⟨h0, h1⟩ := hc
    obtain rfl := Nat.eq_of_beq_eq_true h0
    have e1 : ∀ i0 : Instr, ev_ex nr dfl callf 9 n a b t i0 pc L st h nc ns = ev_w1 (ev_zstL 1 n pc L st) h nc ns := fun _ => rfl
    rw [e1] at hx
    rw [ev_zstL_ok] at hx
    obtain rfl := Nat.eq_of_beq_eq_true h1
    simp only [ev_step, ev_stH, ev_stA]
    exact hx
  | astore q =>
    simp only [ev_ckx, Bool.and_eq_true] at hc
    obtain ⟨h0, h1⟩ := hc
    obtain rfl := Nat.eq_of_beq_eq_true h0
    have e1 : ∀ i0 : Instr, ev_ex nr dfl callf 10 n a b t i0 pc L st h nc ns = ev_w1 (ev_zstR 2 n pc L st) h nc ns := fun _ => rfl
    rw [e1] at hx
    rw [ev_zstR_ok] at hx
    obtain rfl := Nat.eq_of_beq_eq_true h1
    simp only [ev_step, ev_stH, ev_stA]
    exact hx
  | astore_n q =>
    simp only [ev_ckx, Bool.and_eq_true] at hc
    obtain ⟨h0, h1⟩ := hc
    obtain rfl := Nat.eq_of_beq_eq_true h0
    have e1 : ∀ i0 : Instr, ev_ex nr dfl callf 11 n a b t i0 pc L st h nc ns = ev_w1 (ev_zstR 1 n pc L st) h nc ns := fun _ => rfl
    rw [e1] at hx
    rw [ev_zstR_ok] at hx
    obtain rfl := Nat.eq_of_beq_eq_true h1
    simp only [ev_step, ev_stH, ev_stA]
    exact hx
  | iconst q =>
    simp only [ev_ckx, Bool.and_eq_true] at hc
    obtain ⟨⟨h0, h1⟩, h2⟩ := hc
    obtain rfl := Nat.eq_of_beq_eq_true h0
    have e1 : ∀ i0 : Instr, ev_ex nr dfl callf 12 n a b t i0 pc L st h nc ns = some ((pc + 1, L, a :: st), h, nc, ns) := fun _ => rfl
    rw [e1] at hx
    simp only [ev_step, ev_stH, ev_stA]
    rw [h1, h2]
    exact hx
  | bipush q =>
    simp only [ev_ckx, Bool.and_eq_true] at hc
    obtain ⟨⟨h0, h1⟩, h2⟩ := hc
    obtain rfl := Nat.eq_of_beq_eq_true h0
    have e1 : ∀ i0 : Instr, ev_ex nr dfl callf 13 n a b t i0 pc L st h nc ns = some ((pc + 2, L, a :: st), h, nc, ns) := fun _ => rfl
    rw [e1] at hx
    simp only [ev_step, ev_stH, ev_stA]
    rw [h1, h2]
    exact hx
  | sipush q =>
    simp only [ev_ckx, Bool.and_eq_true] at hc
    obtain ⟨⟨h0, h1⟩, h2⟩ := hc
    obtain rfl := Nat.eq_of_beq_eq_true h0
    have e1 : ∀ i0 : Instr, ev_ex nr dfl callf 14 n a b t i0 pc L st h nc ns = some ((pc + 3, L, a :: st), h, nc, ns) := fun _ => rfl
    rw [e1] at hx
    simp only [ev_step, ev_stH, ev_stA]
    rw [h1, h2]
    exact hx
  | lconst q =>
    simp only [ev_ckx, Bool.and_eq_true] at hc
    obtain ⟨h0, h1⟩ := hc
    obtain rfl := Nat.eq_of_beq_eq_true h0
    have e1 : ∀ i0 : Instr, ev_ex nr dfl callf 15 n a b t i0 pc L st h nc ns = some ((pc + 1, L, ev_oLc n :: st), h, nc, ns) := fun _ => rfl
    rw [e1] at hx
    obtain rfl := Nat.eq_of_beq_eq_true h1
    simp only [ev_step, ev_stH, ev_stA]
    exact hx
  | iadd =>
    have h0 : Nat.beq k 16 = true := hc
    obtain rfl := Nat.eq_of_beq_eq_true h0
    have e1 : ∀ i0 : Instr, ev_ex nr dfl callf 16 n a b t i0 pc L st h nc ns = ev_w1 (ev_binI pc L st ev_oAdd) h nc ns := fun _ => rfl
    rw [e1] at hx
    simp only [ev_step, ev_stH, ev_stA]
    exact hx
  | isub =>
    have h0 : Nat.beq k 17 = true := hc
    obtain rfl := Nat.eq_of_beq_eq_true h0
    have e1 : ∀ i0 : Instr, ev_ex nr dfl callf 17 n a b t i0 pc L st h nc ns = ev_w1 (ev_binI pc L st ev_oSub) h nc ns := fun _ => rfl
    rw [e1] at hx
    simp only [ev_step, ev_stH, ev_stA]
    exact hx
  | imul =>
    have h0 : Nat.beq k 18 = true := hc
    obtain rfl := Nat.eq_of_beq_eq_true h0
    have e1 : ∀ i0 : Instr, ev_ex nr dfl callf 18 n a b t i0 pc L st h nc ns = ev_w1 (ev_binI pc L st ev_oMul) h nc ns := fun _ => rfl
    rw [e1] at hx
    simp only [ev_step, ev_stH, ev_stA]
    exact hx
  | iand =>
    have h0 : Nat.beq k 19 = true := hc
    obtain rfl := Nat.eq_of_beq_eq_true h0
    have e1 : ∀ i0 : Instr, ev_ex nr dfl callf 19 n a b t i0 pc L st h nc ns = ev_w1 (ev_binI pc L st ev_oAnd) h nc ns := fun _ => rfl
    rw [e1] at hx
    simp only [ev_step, ev_stH, ev_stA]
    exact hx
  | ior =>
    have h0 : Nat.beq k 20 = true := hc
    obtain rfl := Nat.eq_of_beq_eq_true h0
    have e1 : ∀ i0 : Instr, ev_ex nr dfl callf 20 n a b t i0 pc L st h nc ns = ev_w1 (ev_binI pc L st ev_oOr) h nc ns := fun _ => rfl
    rw [e1] at hx
    simp only [ev_step, ev_stH, ev_stA]
    exact hx
  | ixor =>
    have h0 : Nat.beq k 21 = true := hc
    obtain rfl := Nat.eq_of_beq_eq_true h0
    have e1 : ∀ i0 : Instr, ev_ex nr dfl callf 21 n a b t i0 pc L st h nc ns = ev_w1 (ev_binI pc L st ev_oXor) h nc ns := fun _ => rfl
    rw [e1] at hx
    simp only [ev_step, ev_stH, ev_stA]
    exact hx
  | iushr =>
    have h0 : Nat.beq k 22 = true := hc
    obtain rfl := Nat.eq_of_beq_eq_true h0
    have e1 : ∀ i0 : Instr, ev_ex nr dfl callf 22 n a b t i0 pc L st h nc ns = ev_w1 (ev_binI pc L st ev_oUsh) h nc ns := fun _ => rfl
    rw [e1] at hx
    simp only [ev_step, ev_stH, ev_stA]
    exact hx
  | ineg =>
    have h0 : Nat.beq k 23 = true := hc
    obtain rfl := Nat.eq_of_beq_eq_true h0
    have e1 : ∀ i0 : Instr, ev_ex nr dfl callf 23 n a b t i0 pc L st h nc ns = ev_w1 (ev_unI pc L st ev_oNeg) h nc ns := fun _ => rfl
    rw [e1] at hx
    simp only [ev_step, ev_stH, ev_stA]
    exact hx
  | i2b =>
    have h0 : Nat.beq k 24 = true := hc
    obtain rfl := Nat.eq_of_beq_eq_true h0
    have e1 : ∀ i0 : Instr, ev_ex nr dfl callf 24 n a b t i0 pc L st h nc ns = ev_w1 (ev_unI pc L st ev_b8) h nc ns := fun _ => rfl
    rw [e1] at hx
    simp only [ev_step, ev_stH, ev_stA]
    exact hx
  | i2c =>
    have h0 : Nat.beq k 25 = true := hc
    obtain rfl := Nat.eq_of_beq_eq_true h0
    have e1 : ∀ i0 : Instr, ev_ex nr dfl callf 25 n a b t i0 pc L st h nc ns = ev_w1 (ev_unI pc L st ev_oI2c) h nc ns := fun _ => rfl
    rw [e1] at hx
    simp only [ev_step, ev_stH, ev_stA]
    exact hx
  | i2l =>
    have h0 : Nat.beq k 26 = true := hc
    obtain rfl := Nat.eq_of_beq_eq_true h0
    have e1 : ∀ i0 : Instr, ev_ex nr dfl callf 26 n a b t i0 pc L st h nc ns = ev_w1 (ev_unI pc L st ev_oI2l) h nc ns := fun _ => rfl
    rw [e1] at hx
    simp only [ev_step, ev_stH, ev_stA]
    exact hx
  | ladd =>
    have h0 : Nat.beq k 27 = true := hc
    obtain rfl := Nat.eq_of_beq_eq_true h0
    have e1 : ∀ i0 : Instr, ev_ex nr dfl callf 27 n a b t i0 pc L st h nc ns = ev_w1 (ev_binL pc L st ev_oAddL) h nc ns := fun _ => rfl
    rw [e1] at hx
    simp only [ev_step, ev_stH, ev_stA]
    exact hx
  | lsub =>
    have h0 : Nat.beq k 28 = true := hc
    obtain rfl := Nat.eq_of_beq_eq_true h0
    have e1 : ∀ i0 : Instr, ev_ex nr dfl callf 28 n a b t i0 pc L st h nc ns = ev_w1 (ev_binL pc L st ev_oSubL) h nc ns := fun _ => rfl
    rw [e1] at hx
    simp only [ev_step, ev_stH, ev_stA]
    exact hx
  | lmul =>
    have h0 : Nat.beq k 29 = true := hc
    obtain rfl := Nat.eq_of_beq_eq_true h0
    have e1 : ∀ i0 : Instr, ev_ex nr dfl callf 29 n a b t i0 pc L st h nc ns = ev_w1 (ev_binL pc L st ev_oMulL) h nc ns := fun _ => rfl
    rw [e1] at hx
    simp only [ev_step, ev_stH, ev_stA]
    exact hx
  | land =>
    have h0 : Nat.beq k 30 = true := hc
    obtain rfl := Nat.eq_of_beq_eq_true h0
    have e1 : ∀ i0 : Instr, ev_ex nr dfl callf 30 n a b t i0 pc L st h nc ns = ev_w1 (ev_binL pc L st ev_oAndL) h nc ns := fun _ => rfl
    rw [e1] at hx
    simp only [ev_step, ev_stH, ev_stA]
    exact hx
  | lxor =>
    have h0 : Nat.beq k 31 = true := hc
    obtain rfl := Nat.eq_of_beq_eq_true h0
    have e1 : ∀ i0 : Instr, ev_ex nr dfl callf 31 n a b t i0 pc L st h nc ns = ev_w1 (ev_binL pc L st ev_oXorL) h nc ns := fun _ => rfl
    rw [e1] at hx
    simp only [ev_step, ev_stH, ev_stA]
    exact hx
  | lcmp =>
    have h0 : Nat.beq k 32 = true := hc
    obtain rfl := Nat.eq_of_beq_eq_true h0
    have e1 : ∀ i0 : Instr, ev_ex nr dfl callf 32 n a b t i0 pc L st h nc ns = ev_w1 (ev_binL pc L st ev_oCmpL) h nc ns := fun _ => rfl
    rw [e1] at hx
    simp only [ev_step, ev_stH, ev_stA]
    exact hx
  | l2i =>
    have h0 : Nat.beq k 33 = true := hc
    obtain rfl := Nat.eq_of_beq_eq_true h0
    have e1 : ∀ i0 : Instr, ev_ex nr dfl callf 33 n a b t i0 pc L st h nc ns = ev_w1 (ev_q_l2i pc L st) h nc ns := fun _ => rfl
    rw [e1] at hx
    simp only [ev_step, ev_stH, ev_stA]
    exact hx
  | lushr =>
    have h0 : Nat.beq k 34 = true := hc
    obtain rfl := Nat.eq_of_beq_eq_true h0
    have e1 : ∀ i0 : Instr, ev_ex nr dfl callf 34 n a b t i0 pc L st h nc ns = ev_w1 (ev_q_lushr pc L st) h nc ns := fun _ => rfl
    rw [e1] at hx
    simp only [ev_step, ev_stH, ev_stA]
    exact hx
  | dup =>
    have h0 : Nat.beq k 35 = true := hc
    obtain rfl := Nat.eq_of_beq_eq_true h0
    have e1 : ∀ i0 : Instr, ev_ex nr dfl callf 35 n a b t i0 pc L st h nc ns = ev_w1 (ev_q_dup pc L st) h nc ns := fun _ => rfl
    rw [e1] at hx
    simp only [ev_step, ev_stH, ev_stA]
    exact hx
  | iinc q z =>
    simp only [ev_ckx, Bool.and_eq_true] at hc
    obtain ⟨⟨h0, h1⟩, h2⟩ := hc
    obtain rfl := Nat.eq_of_beq_eq_true h0
    have e1 : ∀ i0 : Instr, ev_ex nr dfl callf 36 n a b t i0 pc L st h nc ns = ev_w1 (ev_ziinc n a pc L st) h nc ns := fun _ => rfl
    rw [e1] at hx
    rw [ev_ziinc_ok] at hx
    obtain rfl := Nat.eq_of_beq_eq_true h1
    simp only [ev_step, ev_stH, ev_stA, h2, Bool.and_true]
    exact hx
  | goto q =>
    simp only [ev_ckx, Bool.and_eq_true] at hc
    obtain ⟨h0, h9⟩ := hc
    obtain rfl := Nat.eq_of_beq_eq_true h0
    have e1 : ∀ i0 : Instr, ev_ex nr dfl callf 37 n a b t i0 pc L st h nc ns = some ((a, L, st), h, nc, ns) := fun _ => rfl
    rw [e1] at hx
    simp only [ev_step, ev_stH, ev_stA, h9, cond_true, Bool.true_and]
    exact hx
  | ifCond cd q =>
    cases cd with
    | eq =>
      simp only [ev_ckx, Bool.and_eq_true] at hc
      obtain ⟨h0, h9⟩ := hc
      obtain rfl := Nat.eq_of_beq_eq_true h0
      have e1 : ∀ i0 : Instr, ev_ex nr dfl callf 38 n a b t i0 pc L st h nc ns = ev_w1 (ev_q_if .eq a pc L st) h nc ns := fun _ => rfl
      rw [e1] at hx
      simp only [ev_step, ev_stH, ev_stA, h9, cond_true, Bool.true_and]
      exact hx
    | ne =>
      simp only [ev_ckx, Bool.and_eq_true] at hc
      obtain ⟨h0, h9⟩ := hc
      obtain rfl := Nat.eq_of_beq_eq_true h0
      have e1 : ∀ i0 : Instr, ev_ex nr dfl callf 39 n a b t i0 pc L st h nc ns = ev_w1 (ev_q_if .ne a pc L st) h nc ns := fun _ => rfl
      rw [e1] at hx
      simp only [ev_step, ev_stH, ev_stA, h9, cond_true, Bool.true_and]
      exact hx
    | lt =>
      simp only [ev_ckx, Bool.and_eq_true] at hc
      obtain ⟨h0, h9⟩ := hc
      obtain rfl := Nat.eq_of_beq_eq_true h0
      have e1 : ∀ i0 : Instr, ev_ex nr dfl callf 40 n a b t i0 pc L st h nc ns = ev_w1 (ev_q_if .lt a pc L st) h nc ns := fun _ => rfl
      rw [e1] at hx
      simp only [ev_step, ev_stH, ev_stA, h9, cond_true, Bool.true_and]
      exact hx
    | ge =>
      simp only [ev_ckx, Bool.and_eq_true] at hc
      obtain ⟨h0, h9⟩ := hc
      obtain rfl := Nat.eq_of_beq_eq_true h0
      have e1 : ∀ i0 : Instr, ev_ex nr dfl callf 41 n a b t i0 pc L st h nc ns = ev_w1 (ev_q_if .ge a pc L st) h nc ns := fun _ => rfl
      rw [e1] at hx
      simp only [ev_step, ev_stH, ev_stA, h9, cond_true, Bool.true_and]
      exact hx
    | gt =>
      simp only [ev_ckx, Bool.and_eq_true] at hc
      obtain ⟨h0, h9⟩ := hc
      obtain rfl := Nat.eq_of_beq_eq_true h0
      have e1 : ∀ i0 : Instr, ev_ex nr dfl callf 42 n a b t i0 pc L st h nc ns = ev_w1 (ev_q_if .gt a pc L st) h nc ns := fun _ => rfl
      rw [e1] at hx
      simp only [ev_step, ev_stH, ev_stA, h9, cond_true, Bool.true_and]
      exact hx
    | le =>
      simp only [ev_ckx, Bool.and_eq_true] at hc
      obtain ⟨h0, h9⟩ := hc
      obtain rfl := Nat.eq_of_beq_eq_true h0
      have e1 : ∀ i0 : Instr, ev_ex nr dfl callf 43 n a b t i0 pc L st h nc ns = ev_w1 (ev_q_if .le a pc L st) h nc ns := fun _ => rfl
      rw [e1] at hx
      simp only [ev_step, ev_stH, ev_stA, h9, cond_true, Bool.true_and]
      exact hx
  | if_icmp cd q =>
    cases cd with
    | eq =>
      simp only [ev_ckx, Bool.and_eq_true] at hc
      obtain ⟨h0, h9⟩ := hc
      obtain rfl := Nat.eq_of_beq_eq_true h0
      have e1 : ∀ i0 : Instr, ev_ex nr dfl callf 44 n a b t i0 pc L st h nc ns = ev_w1 (ev_q_ic .eq a pc L st) h nc ns := fun _ => rfl
      rw [e1] at hx
      simp only [ev_step, ev_stH, ev_stA, h9, cond_true, Bool.true_and]
      exact hx
    | ne =>
      simp only [ev_ckx, Bool.and_eq_true] at hc
      obtain ⟨h0, h9⟩ := hc
      obtain rfl := Nat.eq_of_beq_eq_true h0
      have e1 : ∀ i0 : Instr, ev_ex nr dfl callf 45 n a b t i0 pc L st h nc ns = ev_w1 (ev_q_ic .ne a pc L st) h nc ns := fun _ => rfl
      rw [e1] at hx
      simp only [ev_step, ev_stH, ev_stA, h9, cond_true, Bool.true_and]
      exact hx
    | lt =>
      simp only [ev_ckx, Bool.and_eq_true] at hc
      obtain ⟨h0, h9⟩ := hc
      obtain rfl := Nat.eq_of_beq_eq_true h0
      have e1 : ∀ i0 : Instr, ev_ex nr dfl callf 46 n a b t i0 pc L st h nc ns = ev_w1 (ev_q_ic .lt a pc L st) h nc ns := fun _ => rfl
      rw [e1] at hx
      simp only [ev_step, ev_stH, ev_stA, h9, cond_true, Bool.true_and]
      exact hx
    | ge =>
      simp only [ev_ckx, Bool.and_eq_true] at hc
      obtain ⟨h0, h9⟩ := hc
      obtain rfl := Nat.eq_of_beq_eq_true h0
      have e1 : ∀ i0 : Instr, ev_ex nr dfl callf 47 n a b t i0 pc L st h nc ns = ev_w1 (ev_q_ic .ge a pc L st) h nc ns := fun _ => rfl
      rw [e1] at hx
      simp only [ev_step, ev_stH, ev_stA, h9, cond_true, Bool.true_and]
      exact hx
    | gt =>
      simp only [ev_ckx, Bool.and_eq_true] at hc
      obtain ⟨h0, h9⟩ := hc
      obtain rfl := Nat.eq_of_beq_eq_true h0
      have e1 : ∀ i0 : Instr, ev_ex nr dfl callf 48 n a b t i0 pc L st h nc ns = ev_w1 (ev_q_ic .gt a pc L st) h nc ns := fun _ => rfl
      rw [e1] at hx
      simp only [ev_step, ev_stH, ev_stA, h9, cond_true, Bool.true_and]
      exact hx
    | le =>
      simp only [ev_ckx, Bool.and_eq_true] at hc
      obtain ⟨h0, h9⟩ := hc
      obtain rfl := Nat.eq_of_beq_eq_true h0
      have e1 : ∀ i0 : Instr, ev_ex nr dfl callf 49 n a b t i0 pc L st h nc ns = ev_w1 (ev_q_ic .le a pc L st) h nc ns := fun _ => rfl
      rw [e1] at hx
      simp only [ev_step, ev_stH, ev_stA, h9, cond_true, Bool.true_and]
      exact hx
  | getfield q =>
    have h0 : Nat.beq k 50 = true := hc
    obtain rfl := Nat.eq_of_beq_eq_true h0
    have e1 : ∀ i0 : Instr, ev_ex nr dfl callf 50 n a b t i0 pc L st h nc ns = ev_zgf a b pc L st h nc ns := fun _ => rfl
    rw [e1] at hx
    rw [ev_zgf_ok] at hx
    simp only [ev_step, ev_stH, ev_stA]
    exact hx
  | putfield q =>
    have h0 : Nat.beq k 51 = true := hc
    obtain rfl := Nat.eq_of_beq_eq_true h0
    have e1 : ∀ i0 : Instr, ev_ex nr dfl callf 51 n a b t i0 pc L st h nc ns = ev_zpf nr a b t pc L st h nc ns := fun _ => rfl
    rw [e1] at hx
    rw [ev_zpf_ok] at hx
    simp only [ev_step, ev_stH, ev_stA]
    exact hx
  | iaload =>
    have h0 : Nat.beq k 52 = true := hc
    obtain rfl := Nat.eq_of_beq_eq_true h0
    have e1 : ∀ i0 : Instr, ev_ex nr dfl callf 52 n a b t i0 pc L st h nc ns = ev_zrdI 1000 pc L st h nc ns := fun _ => rfl
    rw [e1] at hx
    rw [ev_zrdI_ok] at hx
    simp only [ev_step, ev_stH, ev_stA]
    exact hx
  | iastore =>
    have h0 : Nat.beq k 53 = true := hc
    obtain rfl := Nat.eq_of_beq_eq_true h0
    have e1 : ∀ i0 : Instr, ev_ex nr dfl callf 53 n a b t i0 pc L st h nc ns = ev_zias nr pc L st h nc ns := fun _ => rfl
    rw [e1] at hx
    rw [ev_zias_ok] at hx
    simp only [ev_step, ev_stH, ev_stA]
    exact hx
  | baload =>
    have h0 : Nat.beq k 54 = true := hc
    obtain rfl := Nat.eq_of_beq_eq_true h0
    have e1 : ∀ i0 : Instr, ev_ex nr dfl callf 54 n a b t i0 pc L st h nc ns = ev_zbal pc L st h nc ns := fun _ => rfl
    rw [e1] at hx
    simp only [ev_zbal, ev_zisZ_ok, ev_zrdI_ok] at hx
    simp only [ev_step, ev_stH, ev_stA]
    exact hx
  | bastore =>
    have h0 : Nat.beq k 55 = true := hc
    obtain rfl := Nat.eq_of_beq_eq_true h0
    have e1 : ∀ i0 : Instr, ev_ex nr dfl callf 55 n a b t i0 pc L st h nc ns = ev_zbas nr pc L st h nc ns := fun _ => rfl
    rw [e1] at hx
    simp only [ev_zbas, ev_zisZ_ok, ev_zwr_ok] at hx
    simp only [ev_step, ev_stH, ev_stA]
    exact hx
  | invokevirtual q =>
    have h0 : Nat.beq k 56 = true := hc
    obtain rfl := Nat.eq_of_beq_eq_true h0
    have e1 : ∀ i0 : Instr, ev_ex nr dfl callf 56 n a b t i0 pc L st h nc ns = ev_ziv callf a b t pc L st h nc ns := fun _ => rfl
    rw [e1] at hx
    simp only [ev_step]
    exact ev_ziv_ok callf a b t pc L st h nc ns g hx
  | invokestatic q =>
    have h0 : Nat.beq k 57 = true := hc
    obtain rfl := Nat.eq_of_beq_eq_true h0
    have e1 : ∀ i0 : Instr, ev_ex nr dfl callf 57 n a b t i0 pc L st h nc ns = ev_zinv callf a b pc L st h nc ns := fun _ => rfl
    rw [e1] at hx
    rw [ev_zinv_ok] at hx
    simp only [ev_step, ev_stH, ev_stA]
    exact hx
  | return_ => cases hret
  | ireturn => cases hret
  | lreturn => cases hret
  | areturn => cases hret
  | _ =>
    obtain rfl := Nat.eq_of_beq_eq_true (show Nat.beq k 58 = true from hc)
    exact hx

/-- by the quick way, or (number 59) by the full step with its further rules -/
noncomputable def ev_exX (nr : Nat) (dfl : Nat → Nat) (callf : Nat → List Nat → ev_H → Option ev_A) (k n a b t : Nat) (i : Instr) (pc : Nat) (L st : List Nat) (h : ev_H) (nc ns : Nat) : Option ev_G := bif Nat.beq k 59 then ev_stepX nr dfl callf i a b t pc L st h nc ns else ev_ex nr dfl callf k n a b t i pc L st h nc ns
def ev_ckX (i : Instr) (k n a t pc : Nat) : Bool := bif Nat.beq k 59 then !(ev_isRet i) else (ev_ckx i k n a pc && !(ev_pre i a t))
theorem ev_exX_ok {nr : Nat} {dfl : Nat → Nat} {callf : Nat → List Nat → ev_H → Option ev_A} {k n a b t pc nc ns : Nat} {i : Instr} {L st : List Nat} {h : ev_H} {g : ev_G} (hret : ev_isRet i = false) (hc : ev_ckX i k n a t pc = true) (hx : ev_exX nr dfl callf k n a b t i pc L st h nc ns = some g) : ev_stepX nr dfl callf i a b t pc L st h nc ns = some g := by
  unfold ev_exX at hx
  unfold ev_ckX at hc
  cases hk : Nat.beq k 59
  · rw [hk, cond_false] at hx hc
    simp only [Bool.and_eq_true] at hc
    have hp : ev_pre i a t = false := by
      cases hq : ev_pre i a t
      · rfl
      · rw [hq] at hc; cases hc.2
    exact ev_stepX_of hp (ev_ex_ok hret hc.1 hx)
  · rw [hk, cond_true] at hx
    exact hx
theorem ev_ckX_ret {i : Instr} {k n a t pc : Nat} (hc : ev_ckX i k n a t pc = true) (hq : Nat.beq k 1000 = false) : ev_isRet i = false := by
  unfold ev_ckX at hc
  cases hk : Nat.beq k 59
  · rw [hk, cond_false] at hc
    simp only [Bool.and_eq_true] at hc
    have hc := hc.1
    cases i <;> first
      | rfl
      | (have := (show Nat.beq k 1000 = true from hc); rw [hq] at this; cases this)
  · rw [hk, cond_true] at hc
    cases hr : ev_isRet i
    · rfl
    · rw [hr] at hc; cases hc
/-! the quick run -/
abbrev ev_KI : Type := ev_I × Nat × Nat
abbrev ev_MeK : Type := MethodName × ByteArray × Nat × Option FieldType × List (List ev_KI)
def ev_un (code : List (List ev_KI)) : List (List ev_I) := code.map (fun l => l.map Prod.fst)
def ev_unM (m : ev_MeK) : ev_Me := (m.1, m.2.1, m.2.2.1, m.2.2.2.1, ev_un m.2.2.2.2)
noncomputable def ev_nth (l : List (List ev_KI)) : Nat → List ev_KI := List.rec (fun _ => []) (fun a _ ih n => Bool.rec (ih (Nat.pred n)) a (Nat.beq n 0)) l
noncomputable def ev_fnd (l : List ev_KI) : Nat → Option ev_KI := List.rec (fun _ => none) (fun x _ ih pc => Bool.rec (ih pc) (some x) (Nat.beq x.1.1 pc)) l
noncomputable def ev_runK (nr : Nat) (dfl : Nat → Nat) (callf : Nat → List Nat → ev_H → Option ev_A) (code : List (List ev_KI)) (rt : Option FieldType) (n : Nat) : Nat → List Nat → List Nat → ev_H → Nat → Nat → Option ev_A :=
  Nat.rec (fun _ _ _ _ _ _ => none) (fun _ ih pc L st h nc ns => match ev_fnd (ev_nth code (pc / 16)) pc with
    | some x => bif Nat.beq x.2.1 1000 then (match ev_end x.1.2.1 rt st with
        | some r => some (r, h, nc, ns)
        | none => none)
      else (match ev_exX nr dfl callf x.2.1 x.2.2 x.1.2.2.2.1 x.1.2.2.2.2.1 x.1.2.2.2.2.2.1 x.1.2.1 pc L st h nc ns with
        | some ((pc1, L1, st1), h1, nc1, ns1) => bif Nat.ble nc nc1 && Nat.ble ns ns1 then ih pc1 L1 st1 h1 nc1 ns1 else none
        | none => none)
    | none => none) n
theorem ev_runK_s (nr : Nat) (dfl : Nat → Nat) (callf : Nat → List Nat → ev_H → Option ev_A) (code : List (List ev_KI)) (rt : Option FieldType) (n : Nat) (pc : Nat) (L st : List Nat) (h : ev_H) (nc ns : Nat) : ev_runK nr dfl callf code rt (n + 1) pc L st h nc ns = match ev_fnd (ev_nth code (pc / 16)) pc with
    | some x => bif Nat.beq x.2.1 1000 then (match ev_end x.1.2.1 rt st with
        | some r => some (r, h, nc, ns)
        | none => none)
      else (match ev_exX nr dfl callf x.2.1 x.2.2 x.1.2.2.2.1 x.1.2.2.2.2.1 x.1.2.2.2.2.2.1 x.1.2.1 pc L st h nc ns with
        | some ((pc1, L1, st1), h1, nc1, ns1) => bif Nat.ble nc nc1 && Nat.ble ns ns1 then ev_runK nr dfl callf code rt n pc1 L1 st1 h1 nc1 ns1 else none
        | none => none)
    | none => none := rfl
noncomputable def ev_metK (nr : Nat) (dfl : Nat → Nat) (mt : List ev_MeK) (d : Nat) : Nat → List Nat → ev_H → Option ev_A :=
  Nat.rec (fun _ _ _ => none) (fun _ ih mid as h => match ev_gt mt mid with
    | some m => bif Nat.ble (ev_ent as).length m.2.2.1 then ev_runK nr dfl ih m.2.2.2.2 m.2.2.2.1 10000000 0 (ev_ent as ++ List.replicate (m.2.2.1 - (ev_ent as).length) 73786976294838206464) [] h 0 0 else none
    | none => none) d
def ev_ckK (code : List (List ev_KI)) : Bool := code.all (fun l => l.all (fun x => ev_ckX x.1.2.1 x.2.1 x.2.2 x.1.2.2.2.1 x.1.2.2.2.2.2.1 x.1.1))
theorem ev_nth_ok : ∀ (code : List (List ev_KI)) (n : Nat), ev_nth code n = (code[n]?).getD []
  | [], n => by simp; rfl
  | a :: l, 0 => rfl
  | a :: l, n + 1 => by
    have e : ev_nth (a :: l) (n + 1) = ev_nth l n := rfl
    rw [e, ev_nth_ok l n]
    simp
theorem ev_fnd_ok : ∀ (l : List ev_KI) (pc : Nat) (x : ev_KI), ev_fnd l pc = some x → (l.map Prod.fst).find? (fun y => Nat.beq y.1 pc) = some x.1 ∧ x ∈ l ∧ x.1.1 = pc
  | [], _, _, h => by cases h
  | y :: l, pc, x, h => by
    have e : ev_fnd (y :: l) pc = Bool.rec (ev_fnd l pc) (some y) (Nat.beq y.1.1 pc) := rfl
    rw [e] at h
    cases hq : Nat.beq y.1.1 pc
    · rw [hq] at h
      have h : ev_fnd l pc = some x := h
      obtain ⟨h1, h2, h3⟩ := ev_fnd_ok l pc x h
      refine ⟨?_, List.mem_cons_of_mem _ h2, h3⟩
      rw [List.map_cons, List.find?_cons, hq]
      exact h1
    · rw [hq] at h
      have h : some y = some x := h
      cases h
      refine ⟨?_, List.mem_cons_self, Nat.eq_of_beq_eq_true hq⟩
      rw [List.map_cons, List.find?_cons, hq]
theorem ev_ftK_ok {code : List (List ev_KI)} {pc : Nat} {x : ev_KI} (h : ev_fnd (ev_nth code (pc / 16)) pc = some x) : ev_ft (ev_un code) pc = some x.1 ∧ (∃ l ∈ code, x ∈ l) ∧ x.1.1 = pc := by
  rw [ev_nth_ok] at h
  unfold ev_ft ev_un
  rw [List.getElem?_map]
  cases hc : code[pc / 16]? with
  | none =>
    rw [hc] at h
    cases h
  | some l =>
    rw [hc] at h
    obtain ⟨h1, h2, h3⟩ := ev_fnd_ok l pc x h
    exact ⟨h1, ⟨l, List.mem_of_getElem? hc, h2⟩, h3⟩
theorem ev_inv_up {c1 c2 : Nat → List Nat → ev_H → Option ev_A} (hcf : ∀ mid as h r, c1 mid as h = some r → c2 mid as h = some r) {mid n pc nc ns : Nat} {L st : List Nat} {h : ev_H} {g : ev_G} (hx : ev_inv c1 mid n pc L st h nc ns = some g) : ev_inv c2 mid n pc L st h nc ns = some g := by
  unfold ev_inv at hx ⊢
  cases hq : (Nat.ble n st.length && Nat.ble (ev_cat (st.drop n)) 8)
  · rw [hq, cond_false] at hx; cases hx
  · rw [hq, cond_true] at hx
    rw [cond_true]
    cases hc : c1 mid (st.take n).reverse h with
    | none => rw [hc] at hx; cases hx
    | some r => rw [hc] at hx; rw [hcf _ _ _ _ hc]; exact hx
theorem ev_step_up {c1 c2 : Nat → List Nat → ev_H → Option ev_A} (hcf : ∀ mid as h r, c1 mid as h = some r → c2 mid as h = some r) {nr : Nat} {dfl : Nat → Nat} {i : Instr} {a b t pc nc ns : Nat} {L st : List Nat} {h : ev_H} {g : ev_G} (hx : ev_step nr dfl c1 i a b t pc L st h nc ns = some g) : ev_step nr dfl c2 i a b t pc L st h nc ns = some g := by
  cases i with
  | invokespecial idx =>
    simp only [ev_step] at hx ⊢
    cases hb : Nat.beq b 0
    · rw [hb, cond_false] at hx
      rw [cond_false]
      split at hx
      · rename_i r st' hd
        cases hr : ev_isR r
        · rw [hr, cond_false] at hx; cases hx
        · rw [hr, cond_true] at hx
          simp only [cond_true]
          exact ev_inv_up hcf hx
      · cases hx
    · rw [hb, cond_true] at hx
      rw [cond_true]
      exact hx
  | invokestatic idx =>
    simp only [ev_step] at hx ⊢
    exact ev_inv_up hcf hx
  | invokevirtual idx =>
    simp only [ev_step] at hx ⊢
    split at hx
    · split at hx
      · rename_i x ho
        cases hq : (Nat.beq x.1 t && Nat.blt 0 b)
        · rw [hq, cond_false] at hx; cases hx
        · rw [hq, cond_true] at hx
          simp only [ho, hq, cond_true]
          exact ev_inv_up hcf hx
      · cases hx
    · cases hx
  | _ => exact hx
theorem ev_stK_up {c1 c2 : Nat → List Nat → ev_H → Option ev_A} (hcf : ∀ mid as h r, c1 mid as h = some r → c2 mid as h = some r) {nr : Nat} {dfl : Nat → Nat} {i : Instr} {a b t pc nc ns : Nat} {L st : List Nat} {h : ev_H} {g : ev_G} (hx : ev_stK nr dfl c1 i a b t pc L st h nc ns = some g) : ev_stK nr dfl c2 i a b t pc L st h nc ns = some g := by
  cases i with
  | invokevirtual idx =>
    simp only [ev_stK] at hx ⊢
    split at hx
    · rename_i r st' hd
      cases hq : (ev_isK r && (Nat.beq t 1 && Nat.blt 0 b))
      · rw [hq, cond_false] at hx; cases hx
      · rw [hq, cond_true] at hx
        simp only [cond_true]
        exact ev_inv_up hcf hx
    · cases hx
  | _ => exact hx
theorem ev_stepX_up {c1 c2 : Nat → List Nat → ev_H → Option ev_A} (hcf : ∀ mid as h r, c1 mid as h = some r → c2 mid as h = some r) {nr : Nat} {dfl : Nat → Nat} {i : Instr} {a b t pc nc ns : Nat} {L st : List Nat} {h : ev_H} {g : ev_G} (hx : ev_stepX nr dfl c1 i a b t pc L st h nc ns = some g) : ev_stepX nr dfl c2 i a b t pc L st h nc ns = some g := by
  unfold ev_stepX at hx ⊢
  cases hp : ev_pre i a t
  · rw [hp, cond_false] at hx
    rw [cond_false]
    cases hs : ev_step nr dfl c1 i a b t pc L st h nc ns with
    | some g0 =>
      rw [hs] at hx
      rw [ev_step_up hcf hs]
      exact hx
    | none =>
      rw [hs] at hx
      have hx : ev_stK nr dfl c1 i a b t pc L st h nc ns = some g := hx
      have h2 : ev_step nr dfl c2 i a b t pc L st h nc ns = none := by
        cases i with
        | invokevirtual idx =>
          simp only [ev_stK] at hx
          simp only [ev_step]
          split at hx
          · rename_i r st' hd
            cases hq : (ev_isK r && (Nat.beq t 1 && Nat.blt 0 b))
            · rw [hq, cond_false] at hx; cases hx
            · simp only [Bool.and_eq_true] at hq
              have hr : ev_isR r = false := by
                have h5 := Nat.le_of_ble_eq_true (show Nat.ble 92233720368547758080 r = true from by
                  have := hq.1
                  simp only [ev_isK, Bool.and_eq_true] at this
                  exact this.1)
                cases hz : ev_isR r
                · rfl
                · have := ev_isR_s hz
                  omega
              have ho : ev_o h r = none := by
                unfold ev_o
                rw [hr]
                rfl
              rw [ho]
          · cases hx
        | invokestatic idx =>
          simp only [ev_stK] at hx
          have hp : Nat.beq a 999 = false := hp
          rw [hp, cond_false] at hx
          cases hx
        | invokespecial idx => cases hx
        | _ => exact hs
      rw [h2]
      exact ev_stK_up hcf hx
  · rw [hp, cond_true] at hx
    rw [cond_true]
    exact ev_stK_up hcf hx
theorem ev_runK_ok {nr : Nat} {dfl : Nat → Nat} {c1 c2 : Nat → List Nat → ev_H → Option ev_A} (hcf : ∀ mid as h r, c1 mid as h = some r → c2 mid as h = some r) {code : List (List ev_KI)} (hk : ev_ckK code = true) {rt : Option FieldType} {r : ev_A} : ∀ (n pc : Nat) (L st : List Nat) (h : ev_H) (nc ns : Nat), ev_runK nr dfl c1 code rt n pc L st h nc ns = some r → ev_run nr dfl c2 (ev_un code) rt n pc L st h nc ns = some r
  | 0, _, _, _, _, _, _, h => by cases h
  | n + 1, pc, L, st, h, nc, ns, hr => by
    rw [ev_runK_s] at hr
    rw [ev_run_s]
    split at hr
    · rename_i x hx
      obtain ⟨h1, ⟨l, h2, h3⟩, h4⟩ := ev_ftK_ok hx
      have hc := List.all_eq_true.mp (List.all_eq_true.mp hk l h2) x h3
      rw [h4] at hc
      rw [h1]
      dsimp only
      cases hq : Nat.beq x.2.1 1000
      · rw [hq, cond_false] at hr
        have hret : ev_isRet x.1.2.1 = false := ev_ckX_ret hc hq
        have hend : ev_end x.1.2.1 rt st = none := by
          cases hi : x.1.2.1 <;> first
            | rfl
            | (rw [hi] at hret; cases hret)
        rw [hend]
        dsimp only
        split at hr
        · rename_i pc1 L1 st1 h1 nc1 ns1 hg
          rw [ev_stepX_up hcf (ev_exX_ok hret hc hg)]
          dsimp only
          cases hm : (Nat.ble nc nc1 && Nat.ble ns ns1)
          · rw [hm, cond_false] at hr; cases hr
          · rw [hm, cond_true] at hr
            rw [cond_true]
            exact ev_runK_ok hcf hk n _ _ _ _ _ _ hr
        · cases hr
      · rw [hq, cond_true] at hr
        split at hr
        · rename_i r0 he
          rw [he]
          exact hr
        · cases hr
    · cases hr
theorem ev_metK_ok {nr : Nat} {dfl : Nat → Nat} {mt : List ev_MeK} (hk : ∀ (k : Nat) (m : ev_MeK), mt[k]? = some m → ev_ckK m.2.2.2.2 = true) {r : ev_A} : ∀ (d mid : Nat) (as : List Nat) (h : ev_H), ev_metK nr dfl mt d mid as h = some r → ev_met nr dfl (mt.map ev_unM) d mid as h = some r
  | 0, _, _, _, h => by cases h
  | d + 1, mid, as, h, hr => by
    have hr : (match ev_gt mt mid with
      | some m => bif Nat.ble (ev_ent as).length m.2.2.1 then ev_runK nr dfl (ev_metK nr dfl mt d) m.2.2.2.2 m.2.2.2.1 10000000 0 (ev_ent as ++ List.replicate (m.2.2.1 - (ev_ent as).length) 73786976294838206464) [] h 0 0 else none
      | none => none) = some r := hr
    rw [ev_gt_ok] at hr
    show (match (mt.map ev_unM)[mid]? with
      | some m => bif Nat.ble (ev_ent as).length m.2.2.1 then ev_run nr dfl (ev_met nr dfl (mt.map ev_unM) d) m.2.2.2.2 m.2.2.2.1 10000000 0 (ev_ent as ++ List.replicate (m.2.2.1 - (ev_ent as).length) 73786976294838206464) [] h 0 0 else none
      | none => none) = some r
    rw [List.getElem?_map]
    cases hm : mt[mid]? with
    | none => rw [hm] at hr; cases hr
    | some m =>
      rw [hm] at hr
      dsimp only at hr
      show (bif Nat.ble (ev_ent as).length m.2.2.1 then ev_run nr dfl (ev_met nr dfl (mt.map ev_unM) d) (ev_un m.2.2.2.2) m.2.2.2.1 10000000 0 (ev_ent as ++ List.replicate (m.2.2.1 - (ev_ent as).length) 73786976294838206464) [] h 0 0 else none) = some r
      cases hq : Nat.ble (ev_ent as).length m.2.2.1
      · rw [hq, cond_false] at hr; cases hr
      · rw [hq, cond_true] at hr
        rw [cond_true]
        exact ev_runK_ok (fun mid as h r q => ev_metK_ok hk d mid as h q) (hk mid m hm) 10000000 0 _ _ _ _ _ hr
end
section
/-! ===== 07: the evaluator's runs are the machine's: a method's contract out of its evaluation ===== -/
def ev_rv (ka : ev_KA) (ads : List Nat) (r : Option Nat) (v : Option Value) : Prop := match r, v with
  | none, none => True
  | some x, some w => ev_v ka ads x w
  | _, _ => False
/-- links between nest mates: words that hold of a state, and stay -/
def ev_isNest (w : Jvm.Cond) : Bool := match w with
  | .fieldLinkNest _ _ _ _ _ _ => true
  | .methodLinkNest _ _ _ _ => true
  | _ => false
theorem ev_nest_on {w : Jvm.Cond} (h : ev_isNest w = true) : w.onTables = true := by
  cases w <;> first
    | rfl
    | cases h
theorem ev_nest_warm {w : Jvm.Cond} {s U : State} (h : ev_isNest w = true) (hW : s.WarmedH U.vm) (hw : va_Nw w s) : va_Nw w U := by
  cases w <;> first
    | exact va_Nw.warmF hW hw
    | exact va_Nw.warmM hW hw
    | cases h
/-- constants: the string's home, its text, as the tables have them -/
def ev_kOwn (tyf : Nat → Nat → FieldType) (i : Nat) : String := match tyf (2000 + i) 0 with
  | .object s => s
  | _ => ""
def ev_kTx (tyf : Nat → Nat → FieldType) (i : Nat) : String := match tyf (2000 + i) 1 with
  | .object s => s
  | _ => ""
/-- the one class of which there are rows of references -/
def ev_kOc (tyf : Nat → Nat → FieldType) : String := match tyf 2999 0 with
  | .object s => s
  | _ => ""
/-- what is known of the constants, and of the static fields that are read -/
def ev_CF (dfl : Nat → Nat) (tyf : Nat → Nat → FieldType) (ka : ev_KA) (A : Nat → Prop) (U : State) : Prop :=
  ka.length = dfl 5000 ∧ (∀ (i : Nat) (q : Nat × Nat), ka[i]? = some q → va_O "java/lang/String" q.1 A U U.heap ∧ va_OF "java/lang/String" "coder" "B" (.int 0) q.1 A U U.heap ∧ va_OF "java/lang/String" "value" "[B" (.ref q.2) q.1 A U U.heap ∧ va_T .byte q.2 (dfl (3000 + i)) (fun j => .int (nI (ev_at (dfl (2000 + i)) j))) A U U.heap ∧ vk_R (ev_kOwn tyf i) (dfl (4000 + i)) (ev_kTx tyf i) q.1 U) ∧
    va_Z "java/lang/String" "COMPACT_STRINGS" "Z" (.int 1) A U U.heap ∧ va_Zq "jdk/internal/util/Preconditions" "SIOOBE_FORMATTER" "Ljava/util/function/BiFunction;" A U U.heap ∧ va_AO (ev_kOc tyf) U
theorem ev_CF.go {dfl : Nat → Nat} {tyf : Nat → Nat → FieldType} {ka : ev_KA} {A B : Nat → Prop} {s U : State} {H : Heap} {locs : List Loc} (h : ev_CF dfl tyf ka A s) (hW : s.WarmedH U.vm) (hU : U.heap = H) (hS : va_S A s.heap H locs) (hAB : ∀ q, B q → A q) : ev_CF dfl tyf ka B U := by
  subst hU
  obtain ⟨h1, h2, h3, h4, h0⟩ := h
  have hvm : s.vm.Alike U.vm := hW.alike
  refine ⟨h1, fun i q hq => ?_, ((va_Z.moved hvm (h3.kept hS.2.1)).narrow hAB), ((va_Zq.moved hvm (h4.kept hS.2.1)).narrow hAB), va_AO.moved hvm h0⟩
  obtain ⟨g1, g2, g3, g4, g5⟩ := h2 i q hq
  exact ⟨(va_O.moved hvm (g1.kept hS.2.1)).narrow hAB, (va_OF.moved hvm (g2.kept hS.2.1)).narrow hAB, (va_OF.moved hvm (g3.kept hS.2.1)).narrow hAB, (va_T.moved hvm (g4.kept hS.2.1)).narrow hAB, vk_R.warm hW g5⟩
theorem ev_CF.calling {dfl : Nat → Nat} {tyf : Nat → Nat → FieldType} {ka : ev_KA} {A : Nat → Prop} {U : State} {g : JFrame} {mk : MethodId} {a : Array Value} (h : ev_CF dfl tyf ka A U) : ev_CF dfl tyf ka A (U.calling g mk a) := by
  obtain ⟨h1, h2, h3, h4, h0⟩ := h
  refine ⟨h1, fun i q hq => ?_, va_Z.moved (u := U) (U := U.calling g mk a) (Vm.Alike.refl U.vm) h3, va_Zq.moved (u := U) (U := U.calling g mk a) (Vm.Alike.refl U.vm) h4, va_AO.moved (u := U) (U := U.calling g mk a) (Vm.Alike.refl U.vm) h0⟩
  obtain ⟨g1, g2, g3, g4, g5⟩ := h2 i q hq
  exact ⟨va_O.moved (u := U) (U := U.calling g mk a) (Vm.Alike.refl U.vm) g1, va_OF.moved (u := U) (U := U.calling g mk a) (Vm.Alike.refl U.vm) g2, va_OF.moved (u := U) (U := U.calling g mk a) (Vm.Alike.refl U.vm) g3, va_T.moved (u := U) (U := U.calling g mk a) (Vm.Alike.refl U.vm) g4, vk_R.same (u := U) (U := U.calling g mk a) rfl g5⟩
def ev_Pc (D : va_G) (cl : List vw_C) (dfl : Nat → Nat) (tyf : Nat → Nat → FieldType) (ka : ev_KA) (tys : List (ClassId × FieldType)) (WN : List Jvm.Cond) (wsR ws : va_W) (sz : Nat) (vs : List Value) : Array Value → State → Prop :=
  va_Pc vs (fun U => U.heap.size = sz ∧ va_P D cl (wsR ++ ws) U.heap ∧ va_K D cl tys U ∧ va_D (fun _ => True) (wsR ++ ws) ∧ (∀ w ∈ WN, ev_isNest w = true → va_Nw w U) ∧ ev_CF dfl tyf ka (va_A ws sz) U)
def ev_Qc (D : va_G) (cl : List vw_C) (ka : ev_KA) (oc : String) (wsR ws : va_W) (tys : List (ClassId × FieldType)) (ads : List Nat) (sz : Nat) (ret : Option Nat) (h' : ev_H) : Array Value → State → Outcome → State → Prop := fun _ st o t =>
  (∃ (l2 : List Nat) (t2 : List (ClassId × FieldType)) (ws' : va_W) (v : Option Value), o = .returned v ∧ ev_rv ka (ads ++ l2) ret v ∧ ev_M ka oc (tys ++ t2) (ads ++ l2) h' (wsR ++ ws') ∧ va_P D cl (wsR ++ ws') t.heap ∧ va_K D cl (tys ++ t2) t ∧ va_D (va_A ws sz) ws') ∧ va_F (va_A ws sz) st t
theorem ev_Pc.blind {ka : ev_KA} {dfl : Nat → Nat} {tyf : Nat → Nat → FieldType} {D : va_G} {cl : List vw_C} {tys : List (ClassId × FieldType)} {WN : List Jvm.Cond} {wsR ws : va_W} {sz : Nat} {vs : List Value} : FrameBlind (ev_Pc D cl dfl tyf ka tys WN wsR ws sz vs) := by
  intro a U g mk h
  obtain ⟨h0, h1, h2, h3, h4, h5, h6⟩ := h
  exact ⟨h0, h1, h2, va_K.moved (u := U) (U := U.calling g mk a) (Vm.Alike.refl U.vm) h3, h4, fun w hw hn => va_Nw.same (u := U) (U := U.calling g mk a) (ev_nest_on hn) rfl (h5 w hw hn), h6.calling⟩
/-- the words of a call -/
def ev_lkB (W0 : List Jvm.Cond) (args : Array Value) (s : State) (own : String) (idx : Nat) (y : MethodName) (bytes : ByteArray) (maxL : Nat) (rt : Option FieldType) (n : Nat) : Prop :=
  maxL ≤ 45 ∧ Jvm.Cond.code y bytes maxL rt ∈ W0 ∧ (Jvm.Cond.initialized y.cls).before args s = true ∧ (y.cls ≠ "java/lang/invoke/MethodHandle" ∧ y.cls ≠ "java/lang/invoke/VarHandle" ∧ (parseMethodDescriptor y.desc).map (fun d => d.parameters.length) = some n) ∧
    ((Jvm.Cond.methodLink own idx y).before args s = true ∨ ∃ host, va_Nw (.methodLinkNest own idx y host) s)
def ev_lkC (W0 : List Jvm.Cond) (cl : List vw_C) (mt : List ev_Me) (own : String) (args : Array Value) (s : State) (i : Instr) (a b t : Nat) : Prop := match i with
  | .invokespecial idx => (b = 0 ∧ (Jvm.Cond.methodLink own idx objectInit).before args s = true ∧ (Jvm.Cond.instanceMethod objectInit).before args s = true ∧ (Jvm.Cond.code objectInit ⟨#[0xb1]⟩ 1 none).before args s = true) ∨
      (∃ n y bytes maxL code, b = n + 1 ∧ mt[a]? = some (y, bytes, maxL, none, code) ∧ ev_lkB W0 args s own idx y bytes maxL none n ∧ y.name = "<init>" ∧ (Jvm.Cond.instanceMethod y).before args s = true)
  | .invokestatic idx => ∃ y bytes maxL rt code, mt[a]? = some (y, bytes, maxL, rt, code) ∧ ev_lkB W0 args s own idx y bytes maxL rt b ∧ (Jvm.Cond.static y).before args s = true
  | .invokevirtual idx => ∃ n y bytes maxL rt code C T N, b = n + 1 ∧ mt[a]? = some (y, bytes, maxL, rt, code) ∧ cl[t]? = some (C, T, N) ∧ t < 1000 ∧ ev_lkB W0 args s own idx y bytes maxL rt n ∧ (Jvm.Cond.instanceMethod y).before args s = true ∧ (Jvm.Cond.selects C y y).before args s = true
  | _ => True
/-- callees' contracts, out of their evaluation -/
def ev_Cal (l : Launch) (D : va_G) (cl : List vw_C) (dfl : Nat → Nat) (tyf : Nat → Nat → FieldType) (ka : ev_KA) (oc : String) (W0 WN : List Jvm.Cond) (mt : List ev_Me) (wsR : va_W) (d : Nat) (callf : Nat → List Nat → ev_H → Option ev_A) : Prop :=
  ∀ (mid : Nat) (as : List Nat) (h : ev_H) (ret : Option Nat) (h' : ev_H) (mc ms : Nat), callf mid as h = some (ret, h', mc, ms) → ∀ (y : MethodName) (bytes : ByteArray) (maxL : Nat) (rt : Option FieldType) (code : List (List ev_I)), mt[mid]? = some (y, bytes, maxL, rt, code) →
    ∀ (ads : List Nat) (tys : List (ClassId × FieldType)) (ws : va_W) (vs : List Value) (sz : Nat), ev_S ka ads as vs → ev_M ka oc tys ads h (wsR ++ ws) →
      Met l y (Jvm.Cond.code y bytes maxL rt :: W0) { frames := d, cells := mc, slots := ms, locals := 64 * d } (ev_Pc D cl dfl tyf ka tys WN wsR ws sz vs) (ev_Qc D cl ka oc wsR ws tys ads sz ret h') mc ms (va_A ws sz)
section EVR
variable {p : Program} {l : Launch} {e : Env} {R : Room} {s : State} {m : MethodId} {args : Array Value} {below : List Frame} {meth : Method} {c : Code} {H : Heap} {locs : List Loc} {cells slots : Nat} {Q : State → Prop} {cc : ByteArray}
variable {D : va_G} {cl : List vw_C} {tys : List (ClassId × FieldType)} {A : Nat → Prop} {H0 : Heap} {wsR ws : va_W} {oc own : String} {dfl : Nat → Nat} {tyf : Nat → Nat → FieldType} {W0 WN : List Jvm.Cond} {mt : List ev_Me}
/-- behind a call -/
theorem ev_back {ka : ev_KA} {mc ms pc sz : Nat} {ls : Array Slot} {st0 rest : List Value} {ads : List Nat} {ret : Option Nat} {h' : ev_H} {a : Array Value} (hr : va_Run p l e R s m args below meth c H locs cells slots mc ms (F0 m pc ls st0) rest (ev_Qc D cl ka oc wsR ws tys ads sz ret h' a) (va_A ws sz)) (hsz : H.size = sz) (hD : va_D A ws) (hS : va_S A H0 H locs) (hA : ∀ q, H0.size ≤ q → A q)
    (kk : ∀ (l2 : List Nat) (t2 : List (ClassId × FieldType)) (ws' : va_W) (v : Option Value) (H' : Heap) (locs' : List Loc), ev_rv ka (ads ++ l2) ret v → ev_M ka oc (tys ++ t2) (ads ++ l2) h' (wsR ++ ws') → va_K D cl (tys ++ t2) s → ev_W D cl A H0 wsR ws' H' locs' → W p l e R s m args below meth c H' locs' (cells + mc) (slots + ms) Q (F0 m (pc + 3) ls (v.toList ++ rest))) : W p l e R s m args below meth c H locs cells slots Q (F0 m pc ls st0) := by
  intro T hT X
  obtain ⟨v, st₀, t, T', L, h0, X', hL, e1, e2, ⟨⟨l2, t2, ws', v', hv, g1, g2, g3, g4, g5⟩, hz, hk⟩, st⟩ := hr T hT X
  cases hv
  have hF : ∀ q, va_A ws sz q → A q := by
    intro q h
    rcases h with ⟨k, e, h⟩ | h
    · exact hD.2 k (q, e) h
    · exact hA q (Nat.le_trans hS.1 (by rw [hsz]; exact h))
  rw [h0] at hz hk
  have hvm : s.vm.Alike t.vm := by rw [← e2]; exact X'.warmed.alike
  obtain ⟨t3, a1, b1⟩ := kk l2 t2 ws' v T'.heap (locs ++ L) g1 g2 (va_K.moved hvm.symm g4)
    ⟨by rw [e1]; exact g3, g5.weaken (fun k q _ h => hF q.1 h), Nat.le_trans hS.1 (by rw [e1]; exact hz), fun q h1 h2 => by rw [e1, hk q (Nat.lt_of_lt_of_le h1 hS.1) (fun z => h2 (hF q z))]; exact hS.2.1 q h1 h2, fun q hq => by
      rcases List.mem_append.mp hq with h | h
      · exact hS.2.2 q h
      · exact hF _ (hL q h)⟩ T' rfl X'
  exact ⟨t3, st t3 a1, b1⟩
theorem ev_inv_s {callf : Nat → List Nat → ev_H → Option ev_A} {mid n pc nc ns pc' nc' ns' : Nat} {L st L' st' : List Nat} {h h' : ev_H} (hs : ev_inv callf mid n pc L st h nc ns = some ((pc', L', st'), h', nc', ns')) :
    n ≤ st.length ∧ ev_cat (st.drop n) ≤ 8 ∧ pc' = pc + 3 ∧ L' = L ∧ ∃ ret mc ms, callf mid (st.take n).reverse h = some (ret, h', mc, ms) ∧ st' = ret.toList ++ st.drop n ∧ nc' = nc + mc ∧ ns' = ns + ms := by
  unfold ev_inv at hs
  cases hq : (Nat.ble n st.length && Nat.ble (ev_cat (st.drop n)) 8)
  · rw [hq, cond_false] at hs; cases hs
  · rw [hq, cond_true] at hs
    simp only [Bool.and_eq_true] at hq
    refine ⟨Nat.le_of_ble_eq_true hq.1, Nat.le_of_ble_eq_true hq.2, ?_⟩
    split at hs
    · rename_i r h2 mc ms hc
      simp only [Option.some.injEq, Prod.mk.injEq] at hs
      obtain ⟨⟨rfl, rfl, rfl⟩, rfl, rfl, rfl⟩ := hs
      exact ⟨rfl, rfl, some r, mc, ms, hc, rfl, rfl, rfl⟩
    · rename_i h2 mc ms hc
      simp only [Option.some.injEq, Prod.mk.injEq] at hs
      obtain ⟨⟨rfl, rfl, rfl⟩, rfl, rfl, rfl⟩ := hs
      exact ⟨rfl, rfl, none, mc, ms, hc, rfl, rfl, rfl⟩
    · cases hs
theorem ev_rv.S {ka : ev_KA} {ads : List Nat} {r : Option Nat} {v : Option Value} {st : List Nat} {vs : List Value} (h : ev_rv ka ads r v) (hS : ev_S ka ads st vs) : ev_S ka ads (r.toList ++ st) (v.toList ++ vs) := by
  match r, v, h with
  | none, none, _ => exact hS
  | some x, some w, h => exact ⟨h, hS⟩
theorem ev_listrev {α : Type} {a : List α} {n : Nat} (h : a.length = n + 1) : ∃ b As, a.reverse = b :: As ∧ As.length = n ∧ a = As.reverse ++ [b] := by
  have hne : a.reverse ≠ [] := by
    intro q
    have : a.reverse.length = 0 := by rw [q]; rfl
    simp [h] at this
  obtain ⟨b, As, hb⟩ := List.exists_cons_of_ne_nil hne
  refine ⟨b, As, hb, ?_, ?_⟩
  · have : a.reverse.length = n + 1 := by simp [h]
    rw [hb] at this
    simpa using this
  · have := congrArg List.reverse hb
    simpa using this
/-- the receiver of a call -/
theorem ev_rcv {ka : ev_KA} {ads st rst : List Nat} {vs As : List Value} {n rv : Nat} {bv : Value} (hS : ev_S ka ads st vs) (hn : n + 1 ≤ st.length) (hdrop : st.drop n = rv :: rst) (q2 : As.length = n) (hst : vs = As.reverse ++ bv :: vs.drop (n + 1)) : ev_v ka ads rv bv := by
  obtain ⟨-, -, gd, -⟩ := ev_S.split n hS (by omega)
  rw [hdrop] at gd
  obtain ⟨v1, r1, hv1, gv, -⟩ := gd.cons
  have e1 : vs[n]? = some bv := by
    rw [hst, List.getElem?_append_right (by simp [q2]), List.length_reverse, q2, Nat.sub_self]
    rfl
  have e2 : vs[n]? = some v1 := by
    have : (vs.drop n)[0]? = some v1 := by rw [hv1]; rfl
    rw [List.getElem?_drop] at this
    simpa using this
  rw [e1] at e2
  cases e2
  exact gv
set_option maxHeartbeats 4000000 in
theorem ev_step_ok {ka : ev_KA} {callf : Nat → List Nat → ev_H → Option ev_A} {d ls0 : Nat} (hx : p.tables.exec = Jvm.exec) (hb : c.code = cc) (hml : c.maxLocals = ls0) (hW0 : ∀ w ∈ W0, w.before args s = true) (hG : ∀ w ∈ W0, goodWord w = true) (hown : s.vm.findClass own = some m.cls) (hC : ev_Cls W0 cl tyf) (hRO : ev_RO D cl A s.heap wsR) (hA : ∀ q, s.heap.size ≤ q → A q) (hRA : ∀ (k : Nat) (q : Nat × va_E), wsR[k]? = some q → ¬ A q.1) (hRD : va_D (fun _ => True) wsR)
    (hcal : ev_Cal l D cl dfl tyf ka oc W0 WN mt wsR d callf) (hNw : ∀ w ∈ WN, ev_isNest w = true → va_Nw w s) (hCF : ev_CF dfl tyf ka A s) (hRf : d + 1 ≤ R.frames) (hRl : 64 * (d + 1) ≤ R.locals)
    {i : Instr} {n0 a b t pc pc' nc ns nc' ns' : Nat} {L st L' st' ads : List Nat} {h h' : ev_H} {ls : Array Slot} {vs : List Value} (hd : decode cc pc = .ok (i, ev_len i n0)) (hlk : ev_lk cl dfl tyf own (meth.name = "<init>") args s i a b t) (hlc : ev_lkC W0 cl mt own args s i a b t)
    (hs : ev_step wsR.length dfl callf i a b t pc L st h nc ns = some ((pc', L', st'), h', nc', ns')) (hL : ev_L ka ads ls0 L ls) (hS : ev_S ka ads st vs) (hM : ev_M ka oc tys ads h (wsR ++ ws)) (hK : va_K D cl tys s) (hWd : ev_W D cl A s.heap wsR ws H locs)
    (hrc : nc' ≤ R.cells) (hrs : ns' ≤ R.slots)
    (kk : ∀ (ls' : Array Slot) (vs' : List Value) (t2 : List (ClassId × FieldType)) (l2 : List Nat) (ws' : va_W) (H' : Heap) (locs' : List Loc), ev_L ka (ads ++ l2) ls0 L' ls' → ev_S ka (ads ++ l2) st' vs' → ev_M ka oc (tys ++ t2) (ads ++ l2) h' (wsR ++ ws') → va_K D cl (tys ++ t2) s → ev_W D cl A s.heap wsR ws' H' locs' → W p l e R s m args below meth c H' locs' nc' ns' Q (F0 m pc' ls' vs')) :
    W p l e R s m args below meth c H locs nc ns Q (F0 m pc ls vs) := by
  obtain ⟨hP, hD, hSS⟩ := id hWd
  have hDD : va_D (fun _ => True) (wsR ++ ws) := va_D.app hRD (hD.weaken (fun _ _ _ _ => trivial)) (fun i j x y hx hy hxy => hRA i x hx (by rw [hxy]; exact hD.2 j y hy))
  have hpre : ∀ (vs2 : List Value) (U : State), U.heap = H → s.WarmedH U.vm → ev_Pc D cl dfl tyf ka tys WN wsR ws H.size vs2 vs2.toArray U := fun vs2 U hU hW => ⟨rfl, by rw [hU], by rw [hU]; exact hP, va_K.moved hW.alike hK, hDD, fun w hw hn => ev_nest_warm hn hW (hNw w hw hn), hCF.go hW hU hSS (fun q h => by
    rcases h with ⟨k, e, h⟩ | h
    · exact hD.2 k (q, e) h
    · exact hA q (Nat.le_trans hSS.1 h))⟩
  have hGI : ∀ {y : MethodName} {bytes : ByteArray} {maxL : Nat} {rt : Option FieldType}, Jvm.Cond.code y bytes maxL rt ∈ W0 → GoodIn W0 (Jvm.Cond.code y bytes maxL rt :: W0) := by
    intro y bytes maxL rt hc w hw
    rcases List.mem_cons.mp hw with rfl | hw
    · exact ⟨hc, good_of_word (hG _ hc)⟩
    · exact ⟨hw, good_of_word (hG _ hw)⟩
  have hroom : ∀ {maxL : Nat} {mc ms : Nat}, maxL ≤ 45 → ({ frames := d, cells := mc, slots := ms, locals := 64 * d } : Room).frames + 1 ≤ R.frames ∧ 8 + (maxL + 11) + ({ frames := d, cells := mc, slots := ms, locals := 64 * d } : Room).locals ≤ R.locals := by
    intro maxL mc ms h
    refine ⟨hRf, ?_⟩
    show 8 + (maxL + 11) + 64 * d ≤ R.locals
    omega
  have hmon : ∀ {rest : List Value}, (rest.map fun v => v.category).sum ≤ 8 → ∀ {st0 : List Value}, 2 * (F0 m pc ls st0).monitorRoom + (rest.map fun v => v.category).sum ≤ 8 := by
    intro rest h st0
    show 2 * 0 + _ ≤ 8
    omega
  have fin : ∀ {ret : Option Nat} {mc ms n : Nat} {a0 : Array Value}, n ≤ st.length → pc' = pc + 3 → L' = L → st' = ret.toList ++ st.drop n → nc' = nc + mc → ns' = ns + ms → va_Run p l e R s m args below meth c H locs nc ns mc ms (F0 m pc ls vs) (vs.drop n) (ev_Qc D cl ka oc wsR ws tys ads H.size ret h' a0) (va_A ws H.size) → W p l e R s m args below meth c H locs nc ns Q (F0 m pc ls vs) := by
    intro ret mc ms n a0 hn e1 e2 e3 e4 e5 hr
    subst e1; subst e2; subst e3; subst e4; subst e5
    obtain ⟨-, -, hSd, -⟩ := ev_S.split n hS hn
    exact ev_back hr rfl hD hSS hA (fun l2 t2 ws' v H' locs' g1 g2 g3 g4 => kk ls _ t2 l2 ws' H' locs' hL.mono (g1.S hSd.mono) g2 g3 g4)
  cases i with
  | invokespecial idx =>
    simp only [ev_step] at hs
    rcases hlc with ⟨rfl, k1, k2, k3⟩ | ⟨n, y, bytes, maxL, code, rfl, k1, ⟨k2, k3, k4, k5, k6⟩, k7, k8⟩
    · simp only [Nat.beq_refl, cond_true] at hs
      split at hs
      · rename_i r st0
        obtain ⟨h1, h2⟩ := ev_bif2 hs
        simp only [Bool.and_eq_true] at h1
        simp only [Prod.mk.injEq] at h2
        obtain ⟨⟨rfl, rfl, rfl⟩, rfl, rfl, rfl⟩ := h2
        obtain ⟨v1, r1, rfl, h3, h4⟩ := hS.cons
        obtain ⟨q, _, rfl⟩ := h3.r h1.1
        have h5 := Nat.le_of_ble_eq_true h1.2
        rw [← ev_cat_ok h4] at h5
        refine W.objInit hx hb hown k1 k2 k3 rfl ?_ rfl hd ?_ ?_ ?_
        · show ls.size = _
          rw [hml]
          obtain ⟨_, lv, g1, _⟩ := hL
          exact g1.1
        · show 1 ≤ R.frames
          omega
        · show 2 * 0 + _ + 12 ≤ R.locals
          omega
        · refine kk ls r1 [] [] ws H locs ?_ ?_ ?_ ?_ hWd <;> simpa using by assumption
      · cases hs
    · have : Nat.beq (n + 1) 0 = false := rfl
      rw [this, cond_false] at hs
      split at hs
      · rename_i rv rst hdrop
        rw [show n + 1 - 1 = n from rfl] at hdrop
        cases hq : ev_isR rv
        · rw [hq, cond_false] at hs; cases hs
        · rw [hq, cond_true] at hs
          obtain ⟨h1, h2, h3, h4, ret, mc, ms, h5, h6, h7, h8⟩ := ev_inv_s hs
          obtain ⟨g1, g2, g3, g4⟩ := ev_S.split (n + 1) hS h1
          obtain ⟨bv, As, q1, q2, q3⟩ := ev_listrev g4
          have hM2 := hcal a _ h ret h' mc ms h5 y bytes maxL none code k1 ads tys ws _ H.size g2.reverse hM
          have hst : vs = As.reverse ++ bv :: vs.drop (n + 1) := g1.trans (by rw [q3, List.append_assoc]; rfl)
          obtain ⟨q, _, rfl⟩ := (ev_rcv hS h1 hdrop q2 hst).r hq
          rw [q1] at hM2
          rw [← ev_cat_ok g3] at h2
          have hsz : ls.size = ls0 := by obtain ⟨_, lv, g1, _⟩ := hL; exact g1.1
          refine fin h1 h3 h4 h6 h7 h8 (a0 := (Value.ref q :: As).toArray) ?_
          have hR := hroom (mc := mc) (ms := ms) k2
          rcases k6 with k6 | ⟨host, k6⟩
          · exact va_runI (As := As) ⟨hx, hb, hml, hown, hW0⟩ hM2 ⟨callB_of n hW0 (hGI k3) rfl rfl rfl k4 k6 k5 hR, k7, k8⟩ ⟨ev_Pc.blind, fun U hU hW => hpre _ U hU hW⟩ rfl q2 hsz hst (hmon h2) hd ⟨by omega, by omega⟩
          · exact va_runIN (As := As) ⟨hx, hb, hml, hown, hW0⟩ hM2 ⟨va_cnB n hW0 (hGI k3) rfl rfl rfl k6 k4 k5 hR, k7, k8⟩ ⟨ev_Pc.blind, fun U hU hW => hpre _ U hU hW⟩ rfl q2 hsz hst (hmon h2) hd ⟨by omega, by omega⟩
      · cases hs
  | invokestatic idx =>
    simp only [ev_step] at hs
    obtain ⟨y, bytes, maxL, rt, code, k1, ⟨k2, k3, k4, k5, k6⟩, k7⟩ := hlc
    obtain ⟨h1, h2, h3, h4, ret, mc, ms, h5, h6, h7, h8⟩ := ev_inv_s hs
    obtain ⟨g1, g2, g3, g4⟩ := ev_S.split b hS h1
    have hM2 := hcal a _ h ret h' mc ms h5 y bytes maxL rt code k1 ads tys ws _ H.size g2.reverse hM
    have hstk : (F0 m pc ls vs).stack = ((vs.take b).reverse).reverse ++ vs.drop b := by
      show vs = _
      rw [List.reverse_reverse]
      exact g1
    rw [← ev_cat_ok g3] at h2
    have hsz : ls.size = ls0 := by obtain ⟨_, lv, g1, _⟩ := hL; exact g1.1
    have hln : ((vs.take b).reverse).length = b := by rw [List.length_reverse]; exact g4
    refine fin h1 h3 h4 h6 h7 h8 (a0 := ((vs.take b).reverse).toArray) ?_
    rcases k6 with k6 | ⟨host, k6⟩
    · exact va_runS (As := (vs.take b).reverse) ⟨hx, hb, hml, hown, hW0⟩ hM2 ⟨callB_of b hW0 (hGI k3) rfl rfl rfl k4 k6 k5 (hroom k2), k7⟩ ⟨ev_Pc.blind, fun U hU hW => hpre _ U hU hW⟩ rfl hln hsz hstk (hmon h2) hd ⟨by omega, by omega⟩
    · exact va_runSN (As := (vs.take b).reverse) ⟨hx, hb, hml, hown, hW0⟩ hM2 ⟨va_cnB b hW0 (hGI k3) rfl rfl rfl k6 k4 k5 (hroom k2), k7, trivial⟩ ⟨ev_Pc.blind, fun U hU hW => hpre _ U hU hW⟩ rfl hln hsz hstk (hmon h2) hd ⟨by omega, by omega⟩
  | invokevirtual idx =>
    simp only [ev_step] at hs
    obtain ⟨n, y, bytes, maxL, rt, code, C, T, N, rfl, k1, kc, kt, ⟨k2, k3, k4, k5, k6⟩, k7, k8⟩ := hlc
    split at hs
    · rename_i rv rst hdrop
      split at hs
      · rename_i x ho
        cases hq : (Nat.beq x.1 t && Nat.blt 0 (n + 1))
        · rw [hq, cond_false] at hs; cases hs
        · rw [hq, cond_true] at hs
          simp only [Bool.and_eq_true] at hq
          obtain ⟨h1, h2, h3, h4, ret, mc, ms, h5, h6, h7, h8⟩ := ev_inv_s hs
          obtain ⟨g1, g2, g3, g4⟩ := ev_S.split (n + 1) hS h1
          obtain ⟨bv, As, q1, q2, q3⟩ := ev_listrev g4
          have hM2 := hcal a _ h ret h' mc ms h5 y bytes maxL rt code k1 ads tys ws _ H.size g2.reverse hM
          have hst : vs = As.reverse ++ bv :: vs.drop (n + 1) := g1.trans (by rw [q3, List.append_assoc]; rfl)
          rw [show n + 1 - 1 = n from rfl] at hdrop
          have gv := ev_rcv hS h1 hdrop q2 hst
          obtain ⟨q, e0, z1, rfl, z3, z4, z5⟩ := hM.o ho gv
          have hxt := Nat.eq_of_beq_eq_true hq.1
          obtain ⟨fs, rfl, f2, f3⟩ := z5.obj (hxt ▸ kt)
          rw [hxt] at z4
          rw [q1] at hM2
          rw [← ev_cat_ok g3] at h2
          have hsz : ls.size = ls0 := by obtain ⟨_, lv, g1, _⟩ := hL; exact g1.1
          have hrecv := va_recv hK hP kc z4
          have hR := hroom (mc := mc) (ms := ms) k2
          refine fin h1 h3 h4 h6 h7 h8 (a0 := (Value.ref q :: As).toArray) ?_
          rcases k6 with k6 | ⟨host, k6⟩
          · exact va_runV (As := As) (C := C) ⟨hx, hb, hml, hown, hW0⟩ hM2 ⟨callB_of n hW0 (hGI k3) rfl rfl rfl k4 k6 k5 hR, k7, k8⟩ ⟨ev_Pc.blind, hrecv, fun U hU hW => hpre _ U hU hW⟩ rfl q2 hsz hst (hmon h2) hd ⟨by omega, by omega⟩
          · exact va_runVN (As := As) (C := C) ⟨hx, hb, hml, hown, hW0⟩ hM2 ⟨va_cnB n hW0 (hGI k3) rfl rfl rfl k6 k4 k5 hR, k7, k8⟩ ⟨ev_Pc.blind, hrecv, fun U hU hW => hpre _ U hU hW⟩ rfl q2 hsz hst (hmon h2) hd ⟨by omega, by omega⟩
      · cases hs
    · cases hs
  | _ =>
    simp only [ev_step] at hs
    exact ev_H_ok hx hb hW0 hown hC hRO hA hd hlk hs hL hS hM hK hWd hrc hrs kk
end EVR
end
section
/-! ===== 07b: the further rules are the machine's ===== -/
theorem ev_cpN_at (A B dp sp : Nat) : ∀ n k : Nat, ev_at (ev_cpN A B dp sp n) k = if dp ≤ k ∧ k < dp + n then ev_at B (sp + (k - dp)) else ev_at A k
  | 0, k => by
    rw [if_neg (by omega)]
    rfl
  | n + 1, k => by
    have e : ev_cpN A B dp sp (n + 1) = ev_up (ev_cpN A B dp sp n) (dp + n) (ev_at B (sp + n)) := rfl
    rw [e, ev_at_up (ev_at_lt _ _), ev_cpN_at A B dp sp n k]
    by_cases h : k = dp + n
    · rw [if_pos h, if_pos (by omega), show sp + (k - dp) = sp + n by omega]
    · rw [if_neg h]
      by_cases h2 : dp ≤ k ∧ k < dp + n
      · rw [if_pos h2, if_pos (by omega)]
      · rw [if_neg h2, if_neg (by omega)]
theorem ev_all8_ok {B sp : Nat} : ∀ n : Nat, ev_all8 B sp n = true → ∀ i, i < n → ev_b8 (ev_at B (sp + i)) = ev_at B (sp + i)
  | 0, _, i, hi => absurd hi (Nat.not_lt_zero _)
  | n + 1, h, i, hi => by
    have h : (ev_all8 B sp n && Nat.beq (ev_b8 (ev_at B (sp + n))) (ev_at B (sp + n))) = true := h
    simp only [Bool.and_eq_true] at h
    by_cases e : i = n
    · subst e; exact Nat.eq_of_beq_eq_true h.2
    · exact ev_all8_ok n h.1 i (by omega)
theorem ev_fits8b {v : Nat} (h : ev_b8 v = v) : fits .byte (.int (nI v)) = true := by
  rw [← h, ev_b8_mod]
  exact ev_fits8 _ (Nat.mod_lt _ (by decide))
theorem ev_lNof (v : Int64) : lN v.toBitVec.toNat = v := ev_lext (by rw [ev_lNn]; exact Nat.mod_eq_of_lt v.toBitVec.isLt)
theorem ev_shr0 (v : Int32) : v >>> ((nI 0 : Int32) &&& 31) = v := by
  have e : (nI 0 : Int32) &&& 31 = 0 := by decide
  rw [e]
  exact Int32.shiftRight_zero
theorem ev_isK_s {x : Nat} (h : ev_isK x = true) : 92233720368547758080 ≤ x ∧ x < 110680464442257309696 := by
  simp only [ev_isK, Bool.and_eq_true] at h
  exact ⟨Nat.le_of_ble_eq_true h.1, Nat.blt_eq.mp h.2⟩
theorem ev_isA_s {x : Nat} (h : ev_isA x = true) : 110680464442257309696 ≤ x ∧ x < 129127208515966861312 := by
  simp only [ev_isA, Bool.and_eq_true] at h
  exact ⟨Nat.le_of_ble_eq_true h.1, Nat.blt_eq.mp h.2⟩
theorem ev_v.kK {ka : ev_KA} {ads : List Nat} {x : Nat} {v : Value} (h : ev_v ka ads x v) (hx : ev_isK x = true) : ∃ q, ka[x - 92233720368547758080]? = some q ∧ v = .ref q.1 := by
  have hx := ev_isK_s hx
  rcases h with ⟨h, e⟩ | ⟨n, hn, h, e⟩ | ⟨k, q, hk, h, h1, e⟩ | ⟨h, e⟩ | ⟨i, q, hi, h, h1, e⟩ | ⟨i, q, hi, h, h1, e⟩ | ⟨h, e⟩
  · omega
  · omega
  · omega
  · omega
  · exact ⟨q, by rw [show x - 92233720368547758080 = i by omega]; exact h1, e⟩
  · omega
  · omega
theorem ev_v.kA {ka : ev_KA} {ads : List Nat} {x : Nat} {v : Value} (h : ev_v ka ads x v) (hx : ev_isA x = true) : ∃ q, ka[x - 110680464442257309696]? = some q ∧ v = .ref q.2 := by
  have hx := ev_isA_s hx
  rcases h with ⟨h, e⟩ | ⟨n, hn, h, e⟩ | ⟨k, q, hk, h, h1, e⟩ | ⟨h, e⟩ | ⟨i, q, hi, h, h1, e⟩ | ⟨i, q, hi, h, h1, e⟩ | ⟨h, e⟩
  · omega
  · omega
  · omega
  · omega
  · omega
  · exact ⟨q, by rw [show x - 110680464442257309696 = i by omega]; exact h1, e⟩
  · omega
theorem ev_v.kR {ka : ev_KA} {ads : List Nat} {x : Nat} {v : Value} (h : ev_v ka ads x v) (hx : (ev_isK x || (ev_isA x || ev_isX x)) = true) : v = .null ∨ ∃ q, v = .ref q := by
  have hb : 92233720368547758080 ≤ x := by
    simp only [Bool.or_eq_true] at hx
    rcases hx with h | h | h
    · exact (ev_isK_s h).1
    · have := (ev_isA_s h).1; omega
    · have := Nat.eq_of_beq_eq_true (show Nat.beq x 129127208515966861312 = true from h); omega
  rcases h with ⟨h, e⟩ | ⟨n, hn, h, e⟩ | ⟨k, q, hk, h, h1, e⟩ | ⟨h, e⟩ | ⟨i, q, hi, h, h1, e⟩ | ⟨i, q, hi, h, h1, e⟩ | ⟨h, e⟩
  · omega
  · omega
  · omega
  · omega
  · exact Or.inr ⟨_, e⟩
  · exact Or.inr ⟨_, e⟩
  · exact e
theorem ev_ldK_ok {ka : ev_KA} {ads : List Nat} {nL d n pc : Nat} {L st : List Nat} {pc' : Nat} {L' st' : List Nat} {ls : Array Slot} (hs : ev_ldK d n pc L st = some (pc', L', st')) (hL : ev_L ka ads nL L ls) :
    ∃ x v, ls[n]? = some (.val v) ∧ ev_v ka ads x v ∧ (v = .null ∨ ∃ q, v = .ref q) ∧ pc' = pc + d ∧ L' = L ∧ st' = x :: st := by
  unfold ev_ldK at hs
  split at hs
  · rename_i x hx0
    cases hq : (ev_isK x || (ev_isA x || ev_isX x))
    · rw [hq] at hs; cases hs
    · rw [hq] at hs
      simp only [cond_true, Option.some.injEq, Prod.mk.injEq] at hs
      obtain ⟨e1, e2, e3⟩ := hs
      have hU : x ≠ 73786976294838206464 := by
        intro e
        rw [e] at hq
        cases hq
      obtain ⟨v, h1, h2⟩ := hL.get hx0 hU
      exact ⟨x, v, h1, h2, h2.kR hq, e1.symm, e2.symm, e3.symm⟩
  · cases hs
/-- the same object by a shorter table of its class -/
theorem ev_alias {D : va_G} {cl : List vw_C} {tys : List (ClassId × FieldType)} {U : State} (hK : va_K D cl tys U) {a b : Nat} {C : String} {T T' : u_T} (h1 : cl[a]? = some (C, T, b)) (h2 : cl[1]? = some (C, T', 2)) (hb : 2 ≤ b) (hT : ∀ k, k < 2 → (T k).1 = (T' k).1 ∧ (T k).2.1 = (T' k).2.1 ∧ (T k).2.2.1 = (T' k).2.2.1) {q : Nat} {fs : List Value} {H : Heap} (h : va_at D cl (q, .inr (a, fs)) H) : va_at D cl (q, .inr (1, fs.take 2)) H := by
  obtain ⟨r, hr, cell, g1, g2, g3, g4⟩ := (show ∃ r : vw_C, cl[a]? = some r ∧ t_OB q (D.1 a) r.2.2 (D.2 a) H (vp_V fs) from h)
  have hr2 : r = (C, T, b) := Option.some.inj (hr.symm.trans h1)
  subst hr2
  obtain ⟨s1, c1⟩ := hK.1 a _ h1
  obtain ⟨s2, c2⟩ := hK.1 1 _ h2
  refine (show ∃ r : vw_C, cl[1]? = some r ∧ t_OB q (D.1 1) r.2.2 (D.2 1) H (vp_V (fs.take 2)) from ⟨_, h2, cell, g1, ?_, g3, fun k hk => ?_⟩)
  · rw [g2]
    exact Option.some.inj (c1.1.symm.trans c2.1)
  · have hk2 : k < 2 := hk
    obtain ⟨cf, kf, fi, fd, e1, e2⟩ := s1 k (Nat.lt_of_lt_of_le hk2 hb)
    obtain ⟨cf', kf', fi', fd', e1', e2'⟩ := s2 k hk2
    obtain ⟨t1, t2, t3⟩ := hT k hk2
    dsimp only at e1 e1'
    rw [t1, t2, t3] at e1
    cases e1.symm.trans e1'
    have g := g4 k (Nat.lt_of_lt_of_le hk2 hb)
    rw [← e2', e2, g]
    unfold vp_V
    simp [List.getD_eq_getElem?_getD, List.getElem?_take, hk2]
/-- what the tables must say of a row that the further rules speak of -/
def ev_lkK (cl : List vw_C) (dfl : Nat → Nat) (tyf : Nat → Nat → FieldType) (oc own : String) (args : Array Value) (s : State) (i : Instr) (a b t : Nat) : Prop := match i with
  | .getfield idx => a = 1 → b < 2 → (Jvm.Cond.fieldLink own idx "java/lang/String" (bif Nat.beq b 0 then "value" else "coder") (bif Nat.beq b 0 then "[B" else "B")).before args s = true
  | .ldc idx => ev_isK a = true → own = ev_kOwn tyf (a - 92233720368547758080) ∧ idx = dfl (4000 + (a - 92233720368547758080))
  | .getstatic idx => (a = 1 → (Jvm.Cond.fieldLink own idx "java/lang/String" "COMPACT_STRINGS" "Z").before args s = true) ∧ (ev_isX a = true → (Jvm.Cond.fieldLink own idx "jdk/internal/util/Preconditions" "SIOOBE_FORMATTER" "Ljava/util/function/BiFunction;").before args s = true)
  | .invokestatic idx => a = 999 → (Jvm.Cond.methodLink own idx arraycopyName).before args s = true ∧ (Jvm.Cond.native arraycopyName).before args s = true ∧ (Jvm.Cond.static arraycopyName).before args s = true ∧ (Jvm.Cond.initialized "java/lang/System").before args s = true
  | .new idx => t = 1 → ∃ (C : String) (T T' : u_T), cl[a]? = some (C, T, b) ∧ cl[1]? = some (C, T', 2) ∧ 2 ≤ b ∧ (∀ k, k < 2 → (T k).1 = (T' k).1 ∧ (T k).2.1 = (T' k).2.1 ∧ (T k).2.2.1 = (T' k).2.2.1) ∧ (Jvm.Cond.classLink own idx C).before args s = true ∧ (Jvm.Cond.instantiable C b).before args s = true ∧ (Jvm.Cond.initialized C).before args s = true ∧ (∀ j, j < 2 → (ev_tyc (tyf a j) = 20 ∧ ev_at (dfl 1) j = 55340232221128654848) ∨ (ev_tyc (tyf a j) < 3 ∧ ev_at (dfl 1) j = 0))
  | .anewarray idx => (Jvm.Cond.classLink own idx oc).before args s = true ∧ ev_kOc tyf = oc
  | .aastore => ∃ (T : u_T) (N : Nat), cl[a]? = some (oc, T, N)
  | _ => True
section EVX
variable {p : Program} {l : Launch} {e : Env} {R : Room} {s : State} {m : MethodId} {args : Array Value} {below : List Frame} {meth : Method} {c : Code} {H : Heap} {locs : List Loc} {cells slots : Nat} {Q : State → Prop} {cc : ByteArray}
variable {D : va_G} {cl : List vw_C} {tys : List (ClassId × FieldType)} {A : Nat → Prop} {wsR ws : va_W} {oc own : String} {dfl : Nat → Nat} {tyf : Nat → Nat → FieldType} {W0 WN : List Jvm.Cond} {mt : List ev_Me}
set_option maxHeartbeats 8000000 in
theorem ev_stK_ok {ka : ev_KA} {callf : Nat → List Nat → ev_H → Option ev_A} {d ls0 : Nat} (hx : p.tables.exec = Jvm.exec) (hb : c.code = cc) (hml : c.maxLocals = ls0) (hW0 : ∀ w ∈ W0, w.before args s = true) (hG : ∀ w ∈ W0, goodWord w = true) (hown : s.vm.findClass own = some m.cls) (hC : ev_Cls W0 cl tyf) (hRO : ev_RO D cl A s.heap wsR) (hA : ∀ q, s.heap.size ≤ q → A q) (hRA : ∀ (k : Nat) (q : Nat × va_E), wsR[k]? = some q → ¬ A q.1) (hRD : va_D (fun _ => True) wsR)
    (hcal : ev_Cal l D cl dfl tyf ka oc W0 WN mt wsR d callf) (hNw : ∀ w ∈ WN, ev_isNest w = true → va_Nw w s) (hRf : d + 1 ≤ R.frames) (hRl : 64 * (d + 1) ≤ R.locals) (hCF : ev_CF dfl tyf ka A s) (hc1 : ∃ T1 : u_T, cl[1]? = some ("java/lang/String", T1, 2))
    {i : Instr} {n0 a b t pc pc' nc ns nc' ns' : Nat} {L st L' st' ads : List Nat} {h h' : ev_H} {ls : Array Slot} {vs : List Value} (hd : decode cc pc = .ok (i, ev_len i n0)) (hlk : ev_lkK cl dfl tyf oc own args s i a b t) (hlc : ev_pre i a t = false → ev_lkC W0 cl mt own args s i a b t)
    (hs : ev_stK wsR.length dfl callf i a b t pc L st h nc ns = some ((pc', L', st'), h', nc', ns')) (hL : ev_L ka ads ls0 L ls) (hS : ev_S ka ads st vs) (hM : ev_M ka oc tys ads h (wsR ++ ws)) (hK : va_K D cl tys s) (hWd : ev_W D cl A s.heap wsR ws H locs)
    (hrc : nc' ≤ R.cells) (hrs : ns' ≤ R.slots)
    (kk : ∀ (ls' : Array Slot) (vs' : List Value) (t2 : List (ClassId × FieldType)) (l2 : List Nat) (ws' : va_W) (H' : Heap) (locs' : List Loc), ev_L ka (ads ++ l2) ls0 L' ls' → ev_S ka (ads ++ l2) st' vs' → ev_M ka oc (tys ++ t2) (ads ++ l2) h' (wsR ++ ws') → va_K D cl (tys ++ t2) s → ev_W D cl A s.heap wsR ws' H' locs' → W p l e R s m args below meth c H' locs' nc' ns' Q (F0 m pc' ls' vs')) :
    W p l e R s m args below meth c H locs nc ns Q (F0 m pc ls vs) := by
  obtain ⟨hP, hD, hSS⟩ := id hWd
  have hsz : ls.size = ls0 := by obtain ⟨_, lv, g1, _⟩ := hL; exact g1.1
  have kk0 : ∀ (ls' : Array Slot) (vs' : List Value) (ws' : va_W) (H' : Heap) (locs' : List Loc), ev_L ka ads ls0 L' ls' → ev_S ka ads st' vs' → ev_M ka oc tys ads h' (wsR ++ ws') → ev_W D cl A s.heap wsR ws' H' locs' → W p l e R s m args below meth c H' locs' nc' ns' Q (F0 m pc' ls' vs') := by
    intro ls' vs' ws' H' locs' g1 g2 g3 g4
    refine kk ls' vs' [] [] ws' H' locs' ?_ ?_ ?_ ?_ g4 <;> simpa using by assumption
  have wr : ∀ {q k : Nat} {e0 e' : va_E} {x x' : ev_C} {H1 : Heap} {locs1 : List Loc}, h[k]? = some x → ads[k]? = some q → (wsR ++ ws)[k]? = some (q, e0) → wsR.length ≤ k → h' = h.set k x' → ev_E ka oc tys ads x' e' → va_P D cl (ws.set (k - wsR.length) (q, e')) H1 → va_D A (ws.set (k - wsR.length) (q, e')) → va_S A s.heap H1 locs1 →
      ev_M ka oc tys ads h' (wsR ++ ws.set (k - wsR.length) (q, e')) ∧ ev_W D cl A s.heap wsR (ws.set (k - wsR.length) (q, e')) H1 locs1 := by
    intro q k e0 e' x x' H1 locs1 g1 g2 g3 g4 g5 g6 g7 g8 g9
    refine ⟨?_, (hRO H1 locs1 g9).app g7, g8, g9⟩
    rw [ev_setR g4, g5]
    exact hM.set g1 g2 g6
  cases i with
  | aload n =>
    simp only [ev_stK] at hs
    split at hs
    · rename_i f hf
      simp only [Option.some.injEq, Prod.mk.injEq] at hs
      obtain ⟨rfl, rfl, rfl, rfl⟩ := hs
      obtain ⟨x, v, h1, h2, h3, rfl, rfl, rfl⟩ := ev_ldK_ok hf hL
      rcases h3 with rfl | ⟨q, rfl⟩
      · exact lv_aloadN hx hb hd h1 (kk0 _ _ _ _ _ hL ⟨h2, hS⟩ hM hWd)
      · exact lv_aload hx hb hd h1 (kk0 _ _ _ _ _ hL ⟨h2, hS⟩ hM hWd)
    · cases hs
  | aload_n n =>
    simp only [ev_stK] at hs
    split at hs
    · rename_i f hf
      simp only [Option.some.injEq, Prod.mk.injEq] at hs
      obtain ⟨rfl, rfl, rfl, rfl⟩ := hs
      obtain ⟨x, v, h1, h2, h3, rfl, rfl, rfl⟩ := ev_ldK_ok hf hL
      rcases h3 with rfl | ⟨q, rfl⟩
      · exact lv_aload_nN hx hb hd rfl h1 (kk0 _ _ _ _ _ hL ⟨h2, hS⟩ hM hWd)
      · exact lv_aload_n hx hb hd rfl h1 (kk0 _ _ _ _ _ hL ⟨h2, hS⟩ hM hWd)
    · cases hs
  | getfield idx =>
    simp only [ev_stK] at hs
    split at hs
    · rename_i r st0
      cases hq : (ev_isK r && Nat.beq a 1)
      · rw [hq, cond_false] at hs; cases hs
      rw [hq, cond_true] at hs
      simp only [Bool.and_eq_true] at hq
      obtain ⟨v1, r1, rfl, h3, h4⟩ := hS.cons
      obtain ⟨q, hq1, rfl⟩ := h3.kK hq.1
      obtain ⟨c1, c2, c3, c4, c5⟩ := hCF.2.1 _ q hq1
      have ha := Nat.eq_of_beq_eq_true hq.2
      have hr := ev_isK_s hq.1
      cases hb0 : Nat.beq b 0
      · rw [hb0, cond_false] at hs
        cases hb1 : Nat.beq b 1
        · rw [hb1, cond_false] at hs; cases hs
        rw [hb1, cond_true] at hs
        simp only [Option.some.injEq, Prod.mk.injEq] at hs
        obtain ⟨⟨rfl, rfl, rfl⟩, rfl, rfl, rfl⟩ := hs
        have hbb := Nat.eq_of_beq_eq_true hb1
        subst hbb
        exact vk_getf hx hb c2 hSS hown (hlk ha (by omega)) (fun _ z => z) hd (kk0 _ _ _ _ _ hL ⟨.int (x := 0) (by decide), h4⟩ hM hWd)
      · rw [hb0, cond_true] at hs
        simp only [Option.some.injEq, Prod.mk.injEq] at hs
        obtain ⟨⟨rfl, rfl, rfl⟩, rfl, rfl, rfl⟩ := hs
        have hbb := Nat.eq_of_beq_eq_true hb0
        subst hbb
        refine vk_getf hx hb c3 hSS hown (hlk ha (by omega)) (fun _ z => z) hd (kk0 _ _ _ _ _ hL ⟨?_, h4⟩ hM hWd)
        exact Or.inr (Or.inr (Or.inr (Or.inr (Or.inr (Or.inl ⟨r - 92233720368547758080, q, by omega, by omega, hq1, rfl⟩)))))
    · cases hs
  | arraylength =>
    simp only [ev_stK] at hs
    split at hs
    · rename_i r st0
      obtain ⟨h1, h2⟩ := ev_bif2 hs
      simp only [Bool.and_eq_true] at h1
      simp only [Prod.mk.injEq] at h2
      obtain ⟨⟨rfl, rfl, rfl⟩, rfl, rfl, rfl⟩ := h2
      obtain ⟨v1, r1, rfl, h3, h4⟩ := hS.cons
      obtain ⟨q, hq1, rfl⟩ := h3.kA h1.1
      obtain ⟨c1, c2, c3, c4, c5⟩ := hCF.2.1 _ q hq1
      have hlt := Nat.blt_eq.mp h1.2
      exact va_tlen hx hb c4 hSS rfl hd (kk0 _ _ _ _ _ hL ⟨.int (by omega), h4⟩ hM hWd)
    · cases hs
  | baload =>
    simp only [ev_stK] at hs
    split at hs
    · rename_i j r st0
      obtain ⟨h1, h2⟩ := ev_bif2 hs
      simp only [Bool.and_eq_true] at h1
      simp only [Prod.mk.injEq] at h2
      obtain ⟨⟨rfl, rfl, rfl⟩, rfl, rfl, rfl⟩ := h2
      obtain ⟨g1, g2, g3, g4, g5⟩ := h1
      obtain ⟨v0, r0, rfl, i3, i4⟩ := hS.cons
      obtain ⟨v1, r1, rfl, h3, h4⟩ := i4.cons
      obtain ⟨rfl, hj⟩ := i3.i g2
      obtain ⟨q, hq1, rfl⟩ := h3.kA g1
      obtain ⟨c1, c2, c3, c4, c5⟩ := hCF.2.1 _ q hq1
      have hlt := Nat.blt_eq.mp g3
      have hlt2 := Nat.blt_eq.mp g4
      refine va_tb hx hb c4 hSS (vp_in_nI hlt (by omega)) (v := .int (nI (ev_at (dfl (2000 + (r - 110680464442257309696))) j))) ?_ hd (kk0 _ _ _ _ _ hL ⟨.int (ev_isI_s g5), h4⟩ hM hWd)
      show Value.int _ = _
      rw [nI_clamp (by omega)]
    · cases hs
  | ldc idx =>
    simp only [ev_stK] at hs
    obtain ⟨h1, h2⟩ := ev_bif2 hs
    simp only [Bool.and_eq_true] at h1
    simp only [Prod.mk.injEq] at h2
    obtain ⟨⟨rfl, rfl, rfl⟩, rfl, rfl, rfl⟩ := h2
    have hr := ev_isK_s h1.1
    have hlt := Nat.blt_eq.mp h1.2
    rw [← hCF.1] at hlt
    have hq1 : ka[a - 92233720368547758080]? = some (ka[a - 92233720368547758080]) := List.getElem?_eq_getElem hlt
    obtain ⟨c1, c2, c3, c4, c5⟩ := hCF.2.1 _ _ hq1
    obtain ⟨k1, k2⟩ := hlk h1.1
    rw [← k1, ← k2] at c5
    refine va_ldcS hx hb hown c5 hd (kk0 _ _ _ _ _ hL ⟨?_, hS⟩ hM hWd)
    exact Or.inr (Or.inr (Or.inr (Or.inr (Or.inl ⟨a - 92233720368547758080, _, by omega, by omega, hq1, rfl⟩))))
  | getstatic idx =>
    simp only [ev_stK] at hs
    obtain ⟨h1, h2⟩ := ev_bif2 hs
    simp only [Bool.or_eq_true] at h1
    simp only [Prod.mk.injEq] at h2
    obtain ⟨⟨rfl, rfl, rfl⟩, rfl, rfl, rfl⟩ := h2
    rcases h1 with h1 | h1
    · have ha := Nat.eq_of_beq_eq_true h1
      subst ha
      exact va_gets hx hb hCF.2.2.1 hSS hown (hlk.1 rfl) (fun _ z => z) hd (kk0 _ _ _ _ _ hL ⟨.int (x := 1) (by decide), hS⟩ hM hWd)
    · have hl := hlk.2 h1
      have ha := Nat.eq_of_beq_eq_true (show Nat.beq a 129127208515966861312 = true from h1)
      rcases hCF.2.2.2.1 with hz | ⟨tt, hz⟩
      · exact va_gets hx hb hz hSS hown hl (fun _ z => z) hd (kk0 _ _ _ _ _ hL ⟨Or.inr (Or.inr (Or.inr (Or.inr (Or.inr (Or.inr ⟨ha, Or.inl rfl⟩))))), hS⟩ hM hWd)
      · exact va_gets hx hb hz hSS hown hl (fun _ z => z) hd (kk0 _ _ _ _ _ hL ⟨Or.inr (Or.inr (Or.inr (Or.inr (Or.inr (Or.inr ⟨ha, Or.inr ⟨tt, rfl⟩⟩))))), hS⟩ hM hWd)
  | ishr =>
    simp only [ev_stK] at hs
    split at hs
    · rename_i y x r
      obtain ⟨h1, h2⟩ := ev_bif2 hs
      simp only [Bool.and_eq_true] at h1
      simp only [Prod.mk.injEq] at h2
      obtain ⟨⟨rfl, rfl, rfl⟩, rfl, rfl, rfl⟩ := h2
      have hy := Nat.eq_of_beq_eq_true h1.1
      subst hy
      obtain ⟨v0, r0, rfl, i3, i4⟩ := hS.cons
      obtain ⟨v1, r1, rfl, h3, h4⟩ := i4.cons
      obtain ⟨rfl, _⟩ := i3.i (show ev_isI 0 = true from rfl)
      obtain ⟨rfl, hxl⟩ := h3.i h1.2
      refine lv_ishr hx hb hd ?_
      rw [ev_shr0]
      exact kk0 _ _ _ _ _ hL ⟨.int hxl, h4⟩ hM hWd
    · cases hs
  | lshr =>
    simp only [ev_stK] at hs
    split at hs
    · rename_i y x r
      obtain ⟨h1, h2⟩ := ev_bif2 hs
      simp only [Bool.and_eq_true] at h1
      simp only [Prod.mk.injEq] at h2
      obtain ⟨⟨rfl, rfl, rfl⟩, rfl, rfl, rfl⟩ := h2
      obtain ⟨v0, r0, rfl, i3, i4⟩ := hS.cons
      obtain ⟨v1, r1, rfl, h3, h4⟩ := i4.cons
      obtain ⟨rfl, _⟩ := i3.i h1.1
      obtain ⟨rfl, _⟩ := h3.l h1.2
      refine lv_lshr hx hb hd rfl ?_
      refine kk0 _ _ _ _ _ hL ⟨?_, h4⟩ hM hWd
      have := ev_v.long (ka := ka) (ads := ads) (n := ((lN (x - 18446744073709551616)) >>> ((nI y).toInt64 &&& 63)).toBitVec.toNat) (BitVec.isLt _)
      rw [ev_lNof] at this
      exact this
    · cases hs
  | lookupswitch dflt ps =>
    simp only [ev_stK] at hs
    split at hs
    · rename_i x r
      cases hq : (ev_isI x && (ps.toList.zip (ps.toList.drop 1)).all (fun (a, next) => a.1 < next.1))
      · rw [hq, cond_false] at hs; cases hs
      rw [hq, cond_true] at hs
      simp only [Bool.and_eq_true] at hq
      split at hs
      · rename_i f hf
        simp only [Option.some.injEq, Prod.mk.injEq] at hs
        obtain ⟨rfl, rfl, rfl, rfl⟩ := hs
        unfold ev_sw at hf
        obtain ⟨h1, h2⟩ := ev_bif2 hf
        have h1 := of_decide_eq_true h1
        simp only [Prod.mk.injEq] at h2
        obtain ⟨rfl, rfl, rfl⟩ := h2
        obtain ⟨v0, r0, rfl, i3, i4⟩ := hS.cons
        obtain ⟨rfl, hxl⟩ := i3.i hq.1
        refine lv_lookup hx hb hd hq.2 (by rw [ev_toS hxl]) (Int.toNat_of_nonneg h1).symm ?_
        exact kk0 _ _ _ _ _ hL i4 hM hWd
      · cases hs
    · cases hs
  | invokevirtual idx =>
    obtain ⟨n, y, bytes, maxL, rt, code, C, T, N, rfl, k1, kc, kt, ⟨k2, k3, k4, k5, k6⟩, k7, k8⟩ := hlc rfl
    simp only [ev_stK] at hs
    have hDD : va_D (fun _ => True) (wsR ++ ws) := va_D.app hRD (hD.weaken (fun _ _ _ _ => trivial)) (fun i j x y hx hy hxy => hRA i x hx (by rw [hxy]; exact hD.2 j y hy))
    have hAB : ∀ q, va_A ws H.size q → A q := by
      intro q h
      rcases h with ⟨k, e, h⟩ | h
      · exact hD.2 k (q, e) h
      · exact hA q (Nat.le_trans hSS.1 h)
    have hpre : ∀ (vs2 : List Value) (U : State), U.heap = H → s.WarmedH U.vm → ev_Pc D cl dfl tyf ka tys WN wsR ws H.size vs2 vs2.toArray U := fun vs2 U hU hW => ⟨rfl, by rw [hU], by rw [hU]; exact hP, va_K.moved hW.alike hK, hDD, fun w hw hn => ev_nest_warm hn hW (hNw w hw hn), hCF.go hW hU hSS hAB⟩
    have hGI : GoodIn W0 (Jvm.Cond.code y bytes maxL rt :: W0) := by
      intro w hw
      rcases List.mem_cons.mp hw with rfl | hw
      · exact ⟨k3, good_of_word (hG _ k3)⟩
      · exact ⟨hw, good_of_word (hG _ hw)⟩
    split at hs
    · rename_i rv rst hdrop
      cases hq : (ev_isK rv && (Nat.beq t 1 && Nat.blt 0 (n + 1)))
      · rw [hq, cond_false] at hs; cases hs
      rw [hq, cond_true] at hs
      simp only [Bool.and_eq_true] at hq
      obtain ⟨h1, h2, h3, h4, ret, mc, ms, h5, h6, h7, h8⟩ := ev_inv_s hs
      obtain ⟨g1, g2, g3, g4⟩ := ev_S.split (n + 1) hS h1
      obtain ⟨bv, As, q1, q2, q3⟩ := ev_listrev g4
      have hM2 := hcal a _ h ret h' mc ms h5 y bytes maxL rt code k1 ads tys ws _ H.size g2.reverse hM
      have hst : vs = As.reverse ++ bv :: vs.drop (n + 1) := g1.trans (by rw [q3, List.append_assoc]; rfl)
      rw [show n + 1 - 1 = n from rfl] at hdrop
      have gv := ev_rcv hS h1 hdrop q2 hst
      obtain ⟨q, hq1, rfl⟩ := gv.kK hq.1
      obtain ⟨T1, e1⟩ := hc1
      have ht1 := Nat.eq_of_beq_eq_true hq.2.1
      rw [ht1, e1] at kc
      cases kc
      have hrecv : ∃ cell : Cell, H[q.1]? = some cell ∧ cell.vm.isStatics = false ∧ s.vm.findClass "java/lang/String" = some cell.cls := by
        obtain ⟨cell, c1, c2, c3, -⟩ := (hCF.2.1 _ q hq1).1.kept hSS.2.1
        exact ⟨cell, c1, c2, c3⟩
      rw [q1] at hM2
      rw [← ev_cat_ok g3] at h2
      have hR : ({ frames := d, cells := mc, slots := ms, locals := 64 * d } : Room).frames + 1 ≤ R.frames ∧ 8 + (maxL + 11) + ({ frames := d, cells := mc, slots := ms, locals := 64 * d } : Room).locals ≤ R.locals := by
        refine ⟨hRf, ?_⟩
        show 8 + (maxL + 11) + 64 * d ≤ R.locals
        omega
      have hmon : 2 * (F0 m pc ls vs).monitorRoom + ((vs.drop (n + 1)).map fun v => v.category).sum ≤ 8 := by
        show 2 * 0 + _ ≤ 8
        omega
      subst h3; subst h4; subst h6; subst h7; subst h8
      refine ev_back (ret := ret) (a := (Value.ref q.1 :: As).toArray) ?_ rfl hD hSS hA (fun l2 t2 ws' v H' locs' g1 g2 g3' g4 => kk ls _ t2 l2 ws' H' locs' hL.mono (g1.S (ev_S.split (n + 1) hS h1).2.2.1.mono) g2 g3' g4)
      rcases k6 with k6 | ⟨host, k6⟩
      · exact va_runV (As := As) (C := "java/lang/String") ⟨hx, hb, hml, hown, hW0⟩ hM2 ⟨callB_of n hW0 hGI rfl rfl rfl k4 k6 k5 hR, k7, k8⟩ ⟨ev_Pc.blind, hrecv, fun U hU hW => hpre _ U hU hW⟩ rfl q2 hsz hst hmon hd ⟨by omega, by omega⟩
      · exact va_runVN (As := As) (C := "java/lang/String") ⟨hx, hb, hml, hown, hW0⟩ hM2 ⟨va_cnB n hW0 hGI rfl rfl rfl k6 k4 k5 hR, k7, k8⟩ ⟨ev_Pc.blind, hrecv, fun U hU hW => hpre _ U hU hW⟩ rfl q2 hsz hst hmon hd ⟨by omega, by omega⟩
    · cases hs
  | invokestatic idx =>
    simp only [ev_stK] at hs
    cases ha0 : Nat.beq a 999
    · rw [ha0, cond_false] at hs; cases hs
    rw [ha0, cond_true] at hs
    obtain ⟨k1, k2, k3, k4⟩ := hlk (Nat.eq_of_beq_eq_true ha0)
    unfold ev_cpy at hs
    split at hs
    · rename_i n dp dd sp s0 st0
      split at hs
      · rename_i x ho
        cases hq : (Nat.beq x.1 1001 && (Nat.ble wsR.length (dd - 36893488147419103232) && (Nat.ble (dp + n) x.2.1 && (Nat.blt x.2.1 2147483648 && Nat.ble (ev_cat st0) 8))))
        · rw [hq, cond_false] at hs; cases hs
        rw [hq, cond_true] at hs
        simp only [Bool.and_eq_true] at hq
        obtain ⟨x1, x2, x3, x4, x5⟩ := hq
        have x1 := Nat.eq_of_beq_eq_true x1
        have x2 := Nat.le_of_ble_eq_true x2
        have x3 := Nat.le_of_ble_eq_true x3
        have x4 := Nat.blt_eq.mp x4
        have x5 := Nat.le_of_ble_eq_true x5
        obtain ⟨w1, r1, rfl, i1, j1⟩ := hS.cons
        obtain ⟨w2, r2, rfl, i2, j2⟩ := j1.cons
        obtain ⟨w3, r3, rfl, i3, j3⟩ := j2.cons
        obtain ⟨w4, r4, rfl, i4, j4⟩ := j3.cons
        obtain ⟨w5, r5, rfl, i5, j5⟩ := j4.cons
        obtain ⟨rfl, _⟩ := i1.i (show ev_isI n = true from Nat.blt_eq.mpr (by omega))
        obtain ⟨rfl, _⟩ := i2.i (show ev_isI dp = true from Nat.blt_eq.mpr (by omega))
        obtain ⟨qd, ed, y1, rfl, y3, y4, y5⟩ := hM.o ho i3
        obtain ⟨td, cd, fd, f1, rfl, f2⟩ := y5.ints (by omega) (by omega)
        have f1' := f1
        rw [x1] at f1'
        have hcat : (r5.map fun v => v.category).sum ≤ 8 := by rw [ev_cat_ok j5]; exact x5
        have hnf : nativeFrameWords "java/lang/System" "arraycopy" 5 = 7 := by decide +kernel
        have hloc : (r5.map fun v => v.category).sum + (nativeFrameWords "java/lang/System" "arraycopy" 5 + 11) ≤ R.locals := by rw [hnf]; omega
        have hfr : 1 ≤ R.frames := by omega
        have fin : ∀ (B : Nat) (f : Nat → Int32) (hf : ∀ j, j < n → ev_b8 (ev_at B (sp + j)) = ev_at B (sp + j)) (hff : ∀ j, j < n → f (sp + j) = nI (ev_at B (sp + j))), ev_E ka oc tys ads (x.1, x.2.1, ev_cpN x.2.2 B dp sp n) (.inl (cd, x.2.1, .inl (va_cpy f fd sp dp n))) := by
          intro B f hf hff
          refine Or.inr (Or.inl ⟨by rw [x1]; decide, by rw [x1]; decide, td, cd, _, f1, rfl, fun j hj => ?_⟩)
          show ev_at (ev_cpN x.2.2 B dp sp n) j < 4294967296 ∧ va_cpy f fd sp dp n j = nI (ev_at (ev_cpN x.2.2 B dp sp n) j)
          rw [ev_cpN_at]
          unfold va_cpy
          by_cases hj2 : dp ≤ j ∧ j < dp + n
          · rw [if_pos hj2, if_pos hj2]
            exact ⟨by rw [← hf (j - dp) (by omega)]; exact ev_b8_lt _, hff (j - dp) (by omega)⟩
          · rw [if_neg hj2, if_neg hj2]
            exact f2 j hj
        cases hA0 : ev_isA s0
        · rw [hA0, cond_false] at hs
          split at hs
          · rename_i y hoy
            obtain ⟨h1, h2⟩ := ev_bif2 hs
            simp only [Bool.and_eq_true] at h1
            simp only [Prod.mk.injEq] at h2
            obtain ⟨⟨rfl, rfl, rfl⟩, e5, rfl, rfl⟩ := h2
            obtain ⟨z1, z2, z3, z4, z5⟩ := h1
            have z1 := Nat.eq_of_beq_eq_true z1
            have z2 := Nat.le_of_ble_eq_true z2
            have z3 := Nat.le_of_ble_eq_true z3
            have z4 := Nat.blt_eq.mp z4
            have z5 := ev_all8_ok n z5
            obtain ⟨rfl, _⟩ := i4.i (show ev_isI sp = true from Nat.blt_eq.mpr (by omega))
            obtain ⟨qs, es, u1, rfl, u3, u4, u5⟩ := hM.o hoy i5
            obtain ⟨ts, cs, fs, v1, rfl, v2⟩ := u5.ints (by omega) (by omega)
            have v1' := v1
            rw [z1] at v1'
            have hc1 : (nI sp).toNatClampNeg = sp := nI_clamp (by omega)
            have hc2 : (nI dp).toNatClampNeg = dp := nI_clamp (by omega)
            have hc3 : (nI n).toNatClampNeg = n := nI_clamp (by omega)
            refine va_copyi hx hb (hml.trans hsz.symm) hown k1 k2 k3 k4 hK hP.ev_r hD hSS _ _ ts td (ev_right u4 z2) (ev_right y4 x2) v1' f1' rfl (nI_pos (by omega)) (nI_pos (by omega)) (nI_pos (by omega)) (by rw [hc1, hc3]; exact z3) (by rw [hc2, hc3]; exact x3) (fun j hj => ?_) hfr hloc hd (fun H1 locs1 m1 m2 m3 => ?_)
            · rw [hc1, (v2 (sp + j) (by rw [hc3] at hj; omega)).2]
              exact ev_fits8b (z5 j (by rw [hc3] at hj; exact hj))
            · rw [hc1, hc2, hc3] at m1 m2
              obtain ⟨n1, n2⟩ := wr y1 y3 y4 x2 e5.symm (fin y.2.2 fs z5 (fun j hj => (v2 (sp + j) (by omega)).2)) m1 m2 m3
              exact kk0 _ _ _ _ _ hL j5 n1 n2
          · cases hs
        · rw [hA0, cond_true] at hs
          obtain ⟨h1, h2⟩ := ev_bif2 hs
          simp only [Bool.and_eq_true] at h1
          simp only [Prod.mk.injEq] at h2
          obtain ⟨⟨rfl, rfl, rfl⟩, e5, rfl, rfl⟩ := h2
          obtain ⟨z3, z4, z5⟩ := h1
          have z3 := Nat.le_of_ble_eq_true z3
          have z4 := Nat.blt_eq.mp z4
          have z5 := ev_all8_ok n z5
          obtain ⟨rfl, _⟩ := i4.i (show ev_isI sp = true from Nat.blt_eq.mpr (by omega))
          obtain ⟨q, hq1, rfl⟩ := i5.kA hA0
          obtain ⟨c1, c2, c3, c4, c5⟩ := hCF.2.1 _ q hq1
          have hc1 : (nI sp).toNatClampNeg = sp := nI_clamp (by omega)
          have hc2 : (nI dp).toNatClampNeg = dp := nI_clamp (by omega)
          have hc3 : (nI n).toNatClampNeg = n := nI_clamp (by omega)
          refine vk_copyt hx hb (hml.trans hsz.symm) hown k1 k2 k3 k4 hK hP.ev_r hD hSS (f := fun j => nI (ev_at (dfl (2000 + (s0 - 110680464442257309696))) j)) c4 _ td (ev_right y4 x2) f1' (nI_pos (by omega)) (nI_pos (by omega)) (nI_pos (by omega)) (by rw [hc1, hc3]; exact z3) (by rw [hc2, hc3]; exact x3) (fun j hj => ?_) hfr hloc hd (fun H1 locs1 m1 m2 m3 => ?_)
          · rw [hc1]
            exact ev_fits8b (z5 j (by rw [hc3] at hj; exact hj))
          · rw [hc1, hc2, hc3] at m1 m2
            obtain ⟨n1, n2⟩ := wr y1 y3 y4 x2 e5.symm (fin (dfl (2000 + (s0 - 110680464442257309696))) _ z5 (fun j hj => rfl)) m1 m2 m3
            exact kk0 _ _ _ _ _ hL j5 n1 n2
      · cases hs
    · cases hs
  | new idx =>
    simp only [ev_stK] at hs
    obtain ⟨h1, h2⟩ := ev_bif2 hs
    simp only [Bool.and_eq_true] at h1
    have hl := Nat.blt_eq.mp h1.2
    simp only [Prod.mk.injEq] at h2
    obtain ⟨⟨rfl, rfl, rfl⟩, rfl, rfl, rfl⟩ := h2
    obtain ⟨C, T, T', k1, k2, k3, k4, k5, k6, k7, k8⟩ := hlk (Nat.eq_of_beq_eq_true h1.1)
    refine va_new (fs := (List.range b).map (fun j => defaultValue (tyf a j))) hx hb hW0 (hC.2 a C T b k1).1 (tyf a) (hC.2 a C T b k1).2.1 hown k5 k6 k7 hK hP.ev_r hD hSS hA k1 (fun j hj => ?_) hrc hrs hd (fun q H1 z2 z3 z4 => ?_)
    · unfold vp_V
      simp [List.getD_eq_getElem?_getD, hj]
    · have z2' : va_P D cl (ws ++ [(q, .inr (1, ((List.range b).map (fun j => defaultValue (tyf a j))).take 2))]) H1 := by
        intro k x hk
        by_cases hkl : k < ws.length
        · rw [List.getElem?_append_left hkl] at hk
          exact z2 k x (by rw [List.getElem?_append_left hkl]; exact hk)
        · rw [List.getElem?_append_right (by omega)] at hk
          have hkk : k = ws.length := by
            have := (List.getElem?_eq_some_iff.mp hk).1
            simp at this
            omega
          subst hkk
          simp at hk
          subst hk
          exact ev_alias hK k1 k2 k3 k4 (z2 ws.length _ (by simp))
      have z3' : va_D A (ws ++ [(q, .inr (1, ((List.range b).map (fun j => defaultValue (tyf a j))).take 2))]) := by
        have ad : ∀ (k : Nat) (x : Nat × va_E), (ws ++ [(q, (.inr (1, ((List.range b).map (fun j => defaultValue (tyf a j))).take 2) : va_E))])[k]? = some x → ∃ y : Nat × va_E, (ws ++ [(q, (.inr (a, (List.range b).map (fun j => defaultValue (tyf a j))) : va_E))])[k]? = some y ∧ y.1 = x.1 := by
          intro k x hk
          by_cases hkl : k < ws.length
          · rw [List.getElem?_append_left hkl] at hk
            exact ⟨x, by rw [List.getElem?_append_left hkl]; exact hk, rfl⟩
          · rw [List.getElem?_append_right (by omega)] at hk
            have hkk : k = ws.length := by
              have := (List.getElem?_eq_some_iff.mp hk).1
              simp at this
              omega
            subst hkk
            simp at hk
            subst hk
            exact ⟨(q, .inr (a, (List.range b).map (fun j => defaultValue (tyf a j)))), by simp, rfl⟩
        refine ⟨fun i j x y hx hy hxy => ?_, fun k x hk => ?_⟩
        · obtain ⟨x', a1, a2⟩ := ad i x hx
          obtain ⟨y', b1, b2⟩ := ad j y hy
          exact z3.1 i j x' y' a1 b1 (by rw [a2, b2]; exact hxy)
        · obtain ⟨x', a1, a2⟩ := ad k x hk
          rw [← a2]
          exact z3.2 k x' a1
      refine kk ls _ [] [q] _ H1 locs hL.mono ⟨ev_newv (by omega) hM.1, hS.mono⟩ ?_ (by simpa using hK) ⟨(hRO H1 locs z4).app z2', z3', z4⟩
      rw [← List.append_assoc]
      refine hM.push (Or.inl ⟨(by decide : 1 < 1000), _, rfl, ?_, fun j hj => ?_⟩)
      · simp
        omega
      · have hj2 : j < 2 := hj
        refine ⟨defaultValue (tyf a j), by simp [List.getElem?_take, hj2, show j < b by omega], ?_⟩
        show ev_v ka _ (ev_at (dfl 1) j) _
        rcases k8 j hj2 with ⟨c1, c2⟩ | ⟨c1, c2⟩
        · rw [c2]
          cases hty : tyf a j <;> rw [hty] at c1 <;> simp [ev_tyc] at c1
          · exact .null
          · exact .null
        · rw [c2]
          cases hty : tyf a j <;> rw [hty] at c1 <;> simp [ev_tyc] at c1
          · exact .int (x := 0) (by decide)
          · exact .int (x := 0) (by decide)
          · exact .int (x := 0) (by decide)
  | anewarray idx =>
    simp only [ev_stK] at hs
    split at hs
    · rename_i n st0
      obtain ⟨h1, h2⟩ := ev_bif2 hs
      simp only [Bool.and_eq_true] at h1
      have hn := Nat.le_of_ble_eq_true h1.1
      have hl := Nat.blt_eq.mp h1.2
      simp only [Prod.mk.injEq] at h2
      obtain ⟨⟨rfl, rfl, rfl⟩, rfl, rfl, rfl⟩ := h2
      obtain ⟨v1, r1, rfl, h3, h4⟩ := hS.cons
      obtain ⟨rfl, _⟩ := h3.i (show ev_isI n = true from Nat.blt_eq.mpr (by omega))
      refine va_newq hx hb hown hlk.1 (hlk.2 ▸ hCF.2.2.2.2) hK hP.ev_r hD hSS hA (nI_pos (by omega)) (nI_clamp (by omega)) (by omega) hrc hrs hd (fun q cA H1 z1 z2 z3 z4 => ?_)
      refine kk ls _ [(cA, .object oc)] [q] _ H1 locs hL.mono ⟨ev_newv (by omega) hM.1, h4.mono⟩ ?_ z1 ⟨(hRO H1 locs z4).app z2, z3, z4⟩
      rw [← List.append_assoc]
      refine hM.push (Or.inr (Or.inr (Or.inr ⟨rfl, tys.length, cA, _, by simp, rfl, fun j _ => Or.inl ⟨ev_at_0 j, rfl⟩⟩)))
    · cases hs
  | aastore =>
    simp only [ev_stK] at hs
    split at hs
    · rename_i v j r st0
      split at hs
      · rename_i x ho
        cases hq : (Nat.beq x.1 a && Nat.ble wsR.length (v - 36893488147419103232))
        · rw [hq, cond_false] at hs; cases hs
        rw [hq, cond_true] at hs
        simp only [Bool.and_eq_true] at hq
        have x1 := Nat.eq_of_beq_eq_true hq.1
        have x2 := Nat.le_of_ble_eq_true hq.2
        split at hs
        · rename_i h2 hz
          simp only [Option.some.injEq, Prod.mk.injEq] at hs
          obtain ⟨⟨rfl, rfl, rfl⟩, rfl, rfl, rfl⟩ := hs
          obtain ⟨v0, r0, rfl, i3, i4⟩ := hS.cons
          obtain ⟨v1, r1, rfl, h3, h4⟩ := i4.cons
          obtain ⟨v2, r2, rfl, h5, h6⟩ := h4.cons
          have i3' := i3
          obtain ⟨qv, ev, y1, rfl, y3, y4, y5⟩ := hM.o ho i3
          obtain ⟨q, e0, z, rfl, rfl, g1, g2, g3, g4, g5, g6, g7, g0, e5, g8, g9⟩ := ev_wr_ok hM hz h3 h5
          obtain ⟨t0, cA, f, f1, rfl, f2⟩ := g4.refs g5
          obtain ⟨T, N, kc⟩ := hlk
          have hal : a < 1000 := Nat.lt_of_lt_of_le (List.getElem?_eq_some_iff.mp kc).1 hC.1
          obtain ⟨fs, rfl, -, -⟩ := y5.obj (by omega)
          rw [x1] at y4
          have hvR : ev_isR v = true := by
            cases hr : ev_isR v
            · unfold ev_o at ho; rw [hr, cond_false] at ho; cases ho
            · rfl
          refine va_astq hx hb hK hP.ev_r hD hSS _ t0 _ a (ev_right g3 g0) f1 (ev_right y4 x2) kc g8 hd (fun H1 locs1 z1 z2 z3 => ?_)
          rw [g9] at z1 z2
          refine (fun (hE : ev_E ka oc tys ads (z.1, z.2.1, ev_up z.2.2 j v) (.inl (cA, z.2.1, .inr (.inr (.inr (.inr (va_up f j (some qv)))))))) => ?_) ?_
          · obtain ⟨m1, m2⟩ := wr g1 g2 g3 g0 e5 hE z1 z2 z3
            exact kk0 _ _ _ _ _ hL h6 m1 m2
          · refine Or.inr (Or.inr (Or.inr ⟨g5, t0, cA, _, f1, rfl, fun k hk => ?_⟩))
            show (ev_at (ev_up z.2.2 j v) k = 0 ∧ va_up f j (some qv) k = none) ∨ (ev_isR (ev_at (ev_up z.2.2 j v) k) = true ∧ ev_v ka ads (ev_at (ev_up z.2.2 j v) k) (va_rf (va_up f j (some qv) k)))
            rw [ev_at_up i3'.lt]
            unfold va_up
            by_cases hkj : k = j
            · rw [if_pos hkj, if_pos hkj]
              exact Or.inr ⟨hvR, i3'⟩
            · rw [if_neg hkj, if_neg hkj]
              exact f2 k hk
        · cases hs
      · cases hs
    · cases hs
  | _ => cases hs
end EVX
section EVX2
variable {p : Program} {l : Launch} {e : Env} {R : Room} {s : State} {m : MethodId} {args : Array Value} {below : List Frame} {meth : Method} {c : Code} {H : Heap} {locs : List Loc} {cells slots : Nat} {Q : State → Prop} {cc : ByteArray}
variable {D : va_G} {cl : List vw_C} {tys : List (ClassId × FieldType)} {A : Nat → Prop} {wsR ws : va_W} {oc own : String} {dfl : Nat → Nat} {tyf : Nat → Nat → FieldType} {W0 WN : List Jvm.Cond} {mt : List ev_Me}
theorem ev_stepX_ok {ka : ev_KA} {callf : Nat → List Nat → ev_H → Option ev_A} {d ls0 : Nat} (hx : p.tables.exec = Jvm.exec) (hb : c.code = cc) (hml : c.maxLocals = ls0) (hW0 : ∀ w ∈ W0, w.before args s = true) (hG : ∀ w ∈ W0, goodWord w = true) (hown : s.vm.findClass own = some m.cls) (hC : ev_Cls W0 cl tyf) (hRO : ev_RO D cl A s.heap wsR) (hA : ∀ q, s.heap.size ≤ q → A q) (hRA : ∀ (k : Nat) (q : Nat × va_E), wsR[k]? = some q → ¬ A q.1) (hRD : va_D (fun _ => True) wsR)
    (hcal : ev_Cal l D cl dfl tyf ka oc W0 WN mt wsR d callf) (hNw : ∀ w ∈ WN, ev_isNest w = true → va_Nw w s) (hCF : ev_CF dfl tyf ka A s) (hc1 : ∃ T1 : u_T, cl[1]? = some ("java/lang/String", T1, 2)) (hRf : d + 1 ≤ R.frames) (hRl : 64 * (d + 1) ≤ R.locals)
    {i : Instr} {n0 a b t pc pc' nc ns nc' ns' : Nat} {L st L' st' ads : List Nat} {h h' : ev_H} {ls : Array Slot} {vs : List Value} (hd : decode cc pc = .ok (i, ev_len i n0)) (hlk : ev_pre i a t = false → ev_lk cl dfl tyf own (meth.name = "<init>") args s i a b t ∧ ev_lkC W0 cl mt own args s i a b t) (hlkK : ev_lkK cl dfl tyf oc own args s i a b t)
    (hs : ev_stepX wsR.length dfl callf i a b t pc L st h nc ns = some ((pc', L', st'), h', nc', ns')) (hL : ev_L ka ads ls0 L ls) (hS : ev_S ka ads st vs) (hM : ev_M ka oc tys ads h (wsR ++ ws)) (hK : va_K D cl tys s) (hWd : ev_W D cl A s.heap wsR ws H locs)
    (hrc : nc' ≤ R.cells) (hrs : ns' ≤ R.slots)
    (kk : ∀ (ls' : Array Slot) (vs' : List Value) (t2 : List (ClassId × FieldType)) (l2 : List Nat) (ws' : va_W) (H' : Heap) (locs' : List Loc), ev_L ka (ads ++ l2) ls0 L' ls' → ev_S ka (ads ++ l2) st' vs' → ev_M ka oc (tys ++ t2) (ads ++ l2) h' (wsR ++ ws') → va_K D cl (tys ++ t2) s → ev_W D cl A s.heap wsR ws' H' locs' → W p l e R s m args below meth c H' locs' nc' ns' Q (F0 m pc' ls' vs')) :
    W p l e R s m args below meth c H locs nc ns Q (F0 m pc ls vs) := by
  rcases ev_stepX_or hs with ⟨hp, hs⟩ | hs
  · obtain ⟨k1, k2⟩ := hlk hp
    exact ev_step_ok hx hb hml hW0 hG hown hC hRO hA hRA hRD hcal hNw hCF hRf hRl hd k1 k2 hs hL hS hM hK hWd hrc hrs kk
  · exact ev_stK_ok hx hb hml hW0 hG hown hC hRO hA hRA hRD hcal hNw hRf hRl hCF hc1 hd hlkK (fun hp => (hlk hp).2) hs hL hS hM hK hWd hrc hrs kk
end EVX2
end
section
/-! ===== 08: a whole method's contract out of its evaluation ===== -/
def ev_okI (W0 : List Jvm.Cond) (cl : List vw_C) (dfl : Nat → Nat) (tyf : Nat → Nat → FieldType) (mt : List ev_Me) (oc own : String) (cc : ByteArray) (ini : Prop) (args : Array Value) (s : State) (x : ev_I) : Prop :=
  decode cc x.1 = .ok (x.2.1, ev_len x.2.1 x.2.2.1) ∧ (ev_pre x.2.1 x.2.2.2.1 x.2.2.2.2.2.1 = false → ev_lk cl dfl tyf own ini args s x.2.1 x.2.2.2.1 x.2.2.2.2.1 x.2.2.2.2.2.1 ∧ ev_lkC W0 cl mt own args s x.2.1 x.2.2.2.1 x.2.2.2.2.1 x.2.2.2.2.2.1) ∧ ev_lkK cl dfl tyf oc own args s x.2.1 x.2.2.2.1 x.2.2.2.2.1 x.2.2.2.2.2.1
/-- what the tables say of every method of the list -/
def ev_Tab (W0 WN : List Jvm.Cond) (cl : List vw_C) (dfl : Nat → Nat) (tyf : Nat → Nat → FieldType) (mt : List ev_Me) (oc : String) : Prop :=
  ∀ (mid : Nat) (y : MethodName) (bytes : ByteArray) (maxL : Nat) (rt : Option FieldType) (code : List (List ev_I)), mt[mid]? = some (y, bytes, maxL, rt, code) → plainName y.cls = true ∧
    ∀ (ini : Prop) (args : Array Value) (s : State), (∀ w ∈ WN, w.before args s = true) → (y.name = "<init>" → ini) → ∀ l ∈ code, ∀ x ∈ l, ev_okI W0 cl dfl tyf mt oc y.cls bytes ini args s x
theorem ev_rok_ok {ka : ev_KA} {ads : List Nat} {ty : FieldType} {x : Nat} {v : Value} (h1 : ev_isI x = true) (h : ev_rok ty x = true) (hv : ev_v ka ads x v) : v = .int (nI x) ∧ narrow ty (.int (nI x)) = .int (nI x) := by
  obtain ⟨rfl, hx⟩ := hv.i h1
  refine ⟨rfl, ?_⟩
  cases ty <;> simp only [ev_rok] at h
  all_goals first
    | (cases h; done)
    | rfl
    | skip
  · have h := Nat.eq_of_beq_eq_true h
    show Value.int (nI x).toInt8.toInt32 = _
    rw [ev_i2b hx]
    show Value.int (nI (ev_b8 x)) = _
    rw [h]
  · have h := Nat.blt_eq.mp h
    show Value.int (nI x).toUInt32.toUInt16.toUInt32.toInt32 = _
    rw [← lg_i2c_nf, ev_i2c hx, Nat.mod_eq_of_lt h]
  · have h := Nat.blt_eq.mp h
    rcases (show x = 0 ∨ x = 1 by omega) with rfl | rfl <;> rfl
theorem va_D.ev_r {A : Nat → Prop} {w1 w2 : va_W} (h : va_D A (w1 ++ w2)) : va_D A w2 := by
  have key : ∀ (k : Nat) (q : Nat × va_E), w2[k]? = some q → (w1 ++ w2)[w1.length + k]? = some q := fun k q hk => by
    rw [List.getElem?_append_right (Nat.le_add_right _ _), Nat.add_sub_cancel_left]
    exact hk
  exact ⟨fun i j x y hx hy hxy => by have := h.1 _ _ x y (key i x hx) (key j y hy) hxy; omega, fun k q hk => h.2 _ q (key k q hk)⟩
theorem va_D.ev_l {A : Nat → Prop} {w1 w2 : va_W} (h : va_D A (w1 ++ w2)) : va_D A w1 := by
  have key : ∀ (k : Nat) (q : Nat × va_E), w1[k]? = some q → (w1 ++ w2)[k]? = some q := fun k q hk => by
    rw [List.getElem?_append_left (List.getElem?_eq_some_iff.mp hk).1]
    exact hk
  exact ⟨fun i j x y hx hy hxy => h.1 _ _ x y (key i x hx) (key j y hy) hxy, fun k q hk => h.2 _ q (key k q hk)⟩
theorem ev_run_mono {nr : Nat} {dfl : Nat → Nat} {callf : Nat → List Nat → ev_H → Option ev_A} {code : List (List ev_I)} {rt : Option FieldType} {ret : Option Nat} {h' : ev_H} {mc ms : Nat} : ∀ (n pc : Nat) (L st : List Nat) (h : ev_H) (nc ns : Nat), ev_run nr dfl callf code rt n pc L st h nc ns = some (ret, h', mc, ms) → nc ≤ mc ∧ ns ≤ ms
  | 0, _, _, _, _, _, _, h => by cases h
  | n + 1, pc, L, st, h, nc, ns, hr => by
    rw [ev_run_s] at hr
    split at hr
    · split at hr
      · simp only [Option.some.injEq, Prod.mk.injEq] at hr
        obtain ⟨_, _, rfl, rfl⟩ := hr
        exact ⟨Nat.le_refl _, Nat.le_refl _⟩
      · split at hr
        · rename_i g hg
          cases hq : (Nat.ble nc g.2.2.1 && Nat.ble ns g.2.2.2)
          · rw [hq, cond_false] at hr; cases hr
          · rw [hq, cond_true] at hr
            simp only [Bool.and_eq_true] at hq
            obtain ⟨h1, h2⟩ := ev_run_mono n _ _ _ _ _ _ hr
            exact ⟨Nat.le_trans (Nat.le_of_ble_eq_true hq.1) h1, Nat.le_trans (Nat.le_of_ble_eq_true hq.2) h2⟩
        · cases hr
    · cases hr
section EVM
variable {p : Program} {l : Launch} {e : Env} {R : Room} {s : State} {m : MethodId} {args : Array Value} {below : List Frame} {meth : Method} {c : Code} {cc : ByteArray}
variable {D : va_G} {cl : List vw_C} {A : Nat → Prop} {wsR ws0 : va_W} {oc own : String} {dfl : Nat → Nat} {tyf : Nat → Nat → FieldType} {W0 WN : List Jvm.Cond} {mt : List ev_Me}
theorem ev_end_ok {ka : ev_KA} {H : Heap} {locs : List Loc} {mc ms pc ls0 sz n0 : Nat} {i : Instr} {rt : Option FieldType} {ret : Option Nat} {st : List Nat} {h' : ev_H} {ads0 l2 : List Nat} {tys0 t2 : List (ClassId × FieldType)} {ws : va_W} {ls : Array Slot} {vs : List Value} (hx : p.tables.exec = Jvm.exec) (hb : c.code = cc) (hr : meth.sig.returnType = rt) (hlocks : meth.locks = false) (hAe : A = va_A ws0 sz)
    (hd : decode cc pc = .ok (i, ev_len i n0)) (he : ev_end i rt st = some ret) (hS : ev_S ka (ads0 ++ l2) st vs) (hM : ev_M ka oc (tys0 ++ t2) (ads0 ++ l2) h' (wsR ++ ws)) (hK : va_K D cl (tys0 ++ t2) s) (hWd : ev_W D cl A s.heap wsR ws H locs) :
    W p l e R s m args below meth c H locs mc ms (MQ below (ev_Qc D cl ka oc wsR ws0 tys0 ads0 sz ret h') args s mc ms A) (F0 m pc ls vs) := by
  obtain ⟨hP, hD, hSS⟩ := hWd
  have hq : ∀ (v : Option Value), ev_rv ka (ads0 ++ l2) ret v → ∀ t : State, t.heap = H → s.WarmedH t.vm → ev_Qc D cl ka oc wsR ws0 tys0 ads0 sz ret h' args s (.returned v) t := by
    intro v hv t ht hW
    subst hAe
    exact ⟨⟨l2, t2, ws, v, rfl, hv, hM, by rw [ht]; exact hP, va_K.moved hW.alike hK, hD⟩, hSS.F ht⟩
  cases i with
  | return_ =>
    simp only [ev_end] at he
    split at he
    · cases he
      obtain rfl := hS.nil
      exact W.vret hx hb hr (hq none trivial) hSS.2.2 hd
    · cases he
  | ireturn =>
    simp only [ev_end] at he
    split at he
    · rename_i ty x
      obtain ⟨h1, h2⟩ := ev_bif2 he
      simp only [Bool.and_eq_true] at h1
      subst h2
      obtain ⟨v1, r1, rfl, h3, h4⟩ := hS.cons
      obtain rfl := h4.nil
      obtain ⟨rfl, h5⟩ := ev_rok_ok h1.1 h1.2 h3
      exact W.zret hx hb hr h5 (hq (some _) h3) hSS.2.2 hd
    · cases he
  | lreturn =>
    simp only [ev_end] at he
    split at he
    · rename_i x
      obtain ⟨h1, h2⟩ := ev_bif2 he
      subst h2
      obtain ⟨v1, r1, rfl, h3, h4⟩ := hS.cons
      obtain rfl := h4.nil
      obtain ⟨rfl, h5⟩ := h3.l h1
      exact W.lret hx hb hr (hq (some _) h3) hSS.2.2 hd
    · cases he
  | areturn =>
    simp only [ev_end] at he
    split at he
    · rename_i ty x
      obtain ⟨h1, h2⟩ := ev_bif2 he
      simp only [Bool.and_eq_true, Bool.or_eq_true] at h1
      subst h2
      obtain ⟨v1, r1, rfl, h3, h4⟩ := hS.cons
      obtain rfl := h4.nil
      have hty : (∃ n, ty = .object n) ∨ ∃ t, ty = .array t := by
        have := h1.1
        cases ty <;> simp [ev_isO] at this
        · exact Or.inl ⟨_, rfl⟩
        · exact Or.inr ⟨_, rfl⟩
      have hv : v1 = .null ∨ ∃ a, v1 = .ref a := by
        rcases h1.2 with h | h
        · obtain ⟨q, _, rfl⟩ := h3.r h; exact Or.inr ⟨q, rfl⟩
        · exact Or.inl (h3.n h)
      exact W.aret hx hb hr hty hv (hq (some _) h3) hSS.2.2 hd
    · cases he
  | _ => cases he
theorem ev_run_ok {ka : ev_KA} {callf : Nat → List Nat → ev_H → Option ev_A} {d ls0 sz mc ms : Nat} {rt : Option FieldType} {ret : Option Nat} {h' : ev_H} {ads0 : List Nat} {tys0 : List (ClassId × FieldType)} {code : List (List ev_I)} (hx : p.tables.exec = Jvm.exec) (hb : c.code = cc) (hr : meth.sig.returnType = rt) (hlocks : meth.locks = false) (hml : c.maxLocals = ls0) (hAe : A = va_A ws0 sz) (hsz : s.heap.size = sz)
    (hW0 : ∀ w ∈ W0, w.before args s = true) (hG : ∀ w ∈ W0, goodWord w = true) (hown : s.vm.findClass own = some m.cls) (hC : ev_Cls W0 cl tyf) (hc1 : ∃ T1 : u_T, cl[1]? = some ("java/lang/String", T1, 2)) (hCF : ev_CF dfl tyf ka A s) (hRO : ev_RO D cl A s.heap wsR) (hRA : ∀ (k : Nat) (q : Nat × va_E), wsR[k]? = some q → ¬ A q.1) (hRD : va_D (fun _ => True) wsR)
    (hcal : ev_Cal l D cl dfl tyf ka oc W0 WN mt wsR d callf) (hNw : ∀ w ∈ WN, ev_isNest w = true → va_Nw w s) (hRf : d + 1 ≤ R.frames) (hRl : 64 * (d + 1) ≤ R.locals) (hRc : mc ≤ R.cells) (hRs : ms ≤ R.slots) (hrow : ∀ l ∈ code, ∀ x ∈ l, ev_okI W0 cl dfl tyf mt oc own cc (meth.name = "<init>") args s x) :
    ∀ (n pc : Nat) (L st : List Nat) (h : ev_H) (nc ns : Nat) (l2 : List Nat) (t2 : List (ClassId × FieldType)) (ws : va_W) (ls : Array Slot) (vs : List Value) (H : Heap) (locs : List Loc), ev_run wsR.length dfl callf code rt n pc L st h nc ns = some (ret, h', mc, ms) → ev_L ka (ads0 ++ l2) ls0 L ls → ev_S ka (ads0 ++ l2) st vs → ev_M ka oc (tys0 ++ t2) (ads0 ++ l2) h (wsR ++ ws) → va_K D cl (tys0 ++ t2) s → ev_W D cl A s.heap wsR ws H locs →
      W p l e R s m args below meth c H locs nc ns (MQ below (ev_Qc D cl ka oc wsR ws0 tys0 ads0 sz ret h') args s mc ms A) (F0 m pc ls vs)
  | 0, _, _, _, _, _, _, _, _, _, _, _, _, _, h, _, _, _, _, _ => by cases h
  | n + 1, pc, L, st, h, nc, ns, l2, t2, ws, ls, vs, H, locs, hrun, hL, hS, hM, hK, hWd => by
    rw [ev_run_s] at hrun
    split at hrun
    · rename_i x hx0
      obtain ⟨⟨l0, hl0, hx1⟩, hx2⟩ := ev_ft_ok hx0
      obtain ⟨hd, hlk, hlc⟩ := hrow l0 hl0 x hx1
      rw [hx2] at hd
      split at hrun
      · rename_i r he
        simp only [Option.some.injEq, Prod.mk.injEq] at hrun
        obtain ⟨rfl, rfl, rfl, rfl⟩ := hrun
        exact ev_end_ok (ls0 := ls0) hx hb hr hlocks hAe hd he hS hM hK hWd
      · split at hrun
        · rename_i g hg
          cases hq : (Nat.ble nc g.2.2.1 && Nat.ble ns g.2.2.2)
          · rw [hq, cond_false] at hrun; cases hrun
          · rw [hq, cond_true] at hrun
            obtain ⟨m1, m2⟩ := ev_run_mono n _ _ _ _ _ _ hrun
            obtain ⟨⟨pc', L', st'⟩, h2, nc', ns'⟩ := g
            have hAA : ∀ q, s.heap.size ≤ q → A q := fun q hq => by rw [hAe]; exact Or.inr (hsz ▸ hq)
            refine ev_stepX_ok hx hb hml hW0 hG hown hC hRO hAA hRA hRD hcal hNw hCF hc1 hRf hRl hd hlk hlc hg hL hS hM hK hWd (Nat.le_trans m1 hRc) (Nat.le_trans m2 hRs) (fun ls' vs' t3 l3 ws' H' locs' g1 g2 g3 g4 g5 => ?_)
            rw [List.append_assoc] at g1 g2 g3 g4
            rw [List.append_assoc] at g3
            exact ev_run_ok hx hb hr hlocks hml hAe hsz hW0 hG hown hC hc1 hCF hRO hRA hRD hcal hNw hRf hRl hRc hRs hrow n pc' L' st' h2 nc' ns' _ _ ws' ls' vs' H' locs' hrun g1 g2 g3 g4 g5
        · cases hrun
    · cases hrun
end EVM
set_option maxHeartbeats 1000000 in
theorem ev_met_ok {ka : ev_KA} {l : Launch} {D : va_G} {cl : List vw_C} {oc : String} {W0 WN : List Jvm.Cond} {mt : List ev_Me} {wsR : va_W} {dfl : Nat → Nat} {tyf : Nat → Nat → FieldType} (hG : ∀ w ∈ W0, goodWord w = true) (hWN : ∀ w ∈ WN, ev_isNest w = false → w ∈ W0) (hC : ev_Cls W0 cl tyf) (hc1 : ∃ T1 : u_T, cl[1]? = some ("java/lang/String", T1, 2)) (hT : ev_Tab W0 WN cl dfl tyf mt oc) : ∀ d : Nat, ev_Cal l D cl dfl tyf ka oc W0 WN mt wsR d (ev_met wsR.length dfl mt d)
  | 0 => by
    intro mid as h ret h' mc ms hr
    cases hr
  | d + 1 => by
    have ih := ev_met_ok (l := l) (D := D) (ka := ka) (oc := oc) (wsR := wsR) hG hWN hC hc1 hT d
    intro mid as h ret h' mc ms hr y bytes maxL rt code hmt ads tys ws vs sz hS hM
    have hr : (match mt[mid]? with
      | some m => bif Nat.ble (ev_ent as).length m.2.2.1 then ev_run wsR.length dfl (ev_met wsR.length dfl mt d) m.2.2.2.2 m.2.2.2.1 10000000 0 (ev_ent as ++ List.replicate (m.2.2.1 - (ev_ent as).length) 73786976294838206464) [] h 0 0 else none
      | none => none) = some (ret, h', mc, ms) := hr
    rw [hmt] at hr
    dsimp only at hr
    cases hq : Nat.ble (ev_ent as).length maxL
    · rw [hq, cond_false] at hr; cases hr
    · rw [hq, cond_true] at hr
      have hlen := Nat.le_of_ble_eq_true hq
      obtain ⟨hpl, hrow⟩ := hT mid y bytes maxL rt code hmt
      refine Met.ofW (cc := bytes) (maxL := maxL) (ret := rt) hpl rfl ?_
      intro p e s m args below meth c s₁ B hml hv
      obtain ⟨rfl, hsz, hP, hK, hDD, hNw, hCF⟩ := hv
      have hx := B.exec
      have hb := B.bytes
      have hrt := B.returns
      have hts := atoms_spec (ws := Jvm.Cond.code y bytes maxL rt :: W0) B.pre
      have hW0 : ∀ w ∈ W0, w.before vs.toArray s = true := fun w hw => hts w (List.mem_cons_of_mem _ hw)
      have hAll : ∀ w ∈ WN, w.before vs.toArray s = true := by
        intro w hw
        cases hn : ev_isNest w
        · exact hW0 w (hWN w hw hn)
        · exact va_Nw.use (ev_nest_on hn) (hNw w hw hn)
      have hown : s.vm.findClass y.cls = some m.cls := findClass_of_methodNamed B.named
      have hlocks := B.notSynchronized
      have hin : meth.name = y.name := (name_of_methodNamed B.named B.method).1
      have hRA : ∀ (k : Nat) (q : Nat × va_E), wsR[k]? = some q → ¬ va_A ws sz q.1 := by
        intro k q hk hA
        have hk2 : (wsR ++ ws)[k]? = some q := by rw [List.getElem?_append_left (List.getElem?_eq_some_iff.mp hk).1]; exact hk
        rcases hA with ⟨j, e0, hj⟩ | hA
        · have hj2 : (wsR ++ ws)[wsR.length + j]? = some (q.1, e0) := by
            rw [List.getElem?_append_right (Nat.le_add_right _ _), Nat.add_sub_cancel_left]; exact hj
          have h1 := hDD.1 _ _ _ _ hk2 hj2 rfl
          have h2 := (List.getElem?_eq_some_iff.mp hk).1
          omega
        · have h2 := (hP k q hk2).lt
          omega
      have hRO : ev_RO D cl (va_A ws sz) s.heap wsR := by
        intro H1 locs1 hS1 k q hk
        have hk2 : (wsR ++ ws)[k]? = some q := by rw [List.getElem?_append_left (List.getElem?_eq_some_iff.mp hk).1]; exact hk
        exact (hP k q hk2).kept (hS1.2.1 q.1 (hP k q hk2).lt (hRA k q hk))
      rw [lg_entry_eq]
      have hL := ev_entry hS hlen
      have hD0 : va_D (va_A ws sz) ws := hDD.ev_r.self
      exact ev_run_ok (ads0 := ads) (tys0 := tys) (ws0 := ws) (l2 := []) (t2 := []) hx hb hrt hlocks hml rfl hsz hW0 hG hown hC hc1 hCF hRO hRA hDD.ev_l ih hNw (Nat.le_refl _) (Nat.le_refl _) (Nat.le_refl _) (Nat.le_refl _) (hrow (meth.name = "<init>") vs.toArray s hAll (fun q => hin.trans q)) 10000000 0 _ [] h 0 0 ws _ [] s.heap [] hr (by simpa using hL) trivial (by simpa using hM) (by simpa using hK) ⟨hP, hD0, va_S.rf⟩
end
section
/-! ===== 09: the tables checked by evaluation ===== -/
abbrev ev_Mk : Type := ev_Me × Nat
/-- a method's own words: kind 0 called on a receiver, 1 static, 2 a constructor -/
def ev_blk (m : ev_Mk) : List Jvm.Cond := [.code m.1.1 m.1.2.1 m.1.2.2.1 m.1.2.2.2.1, .initialized m.1.1.cls] ++ (match m.2 with
  | 0 => [.instanceMethod m.1.1, .selects m.1.1.cls m.1.1 m.1.1]
  | 1 => [.static m.1.1]
  | _ => [.instanceMethod m.1.1])
def ev_W0 (mk : List ev_Mk) (cl : List vw_C) (more : List Jvm.Cond) : List Jvm.Cond := mk.flatMap ev_blk ++ (cl.flatMap (fun c => u_ws c.1 c.2.1 c.2.2) ++ more)
/-- the words that a contract names: all but the links between nest mates -/
def ev_W1 (mk : List ev_Mk) (cl : List vw_C) (more : List Jvm.Cond) : List Jvm.Cond := (ev_W0 mk cl more).filter (fun w => !ev_isNest w)
theorem ev_W1_of {mk : List ev_Mk} {cl : List vw_C} {more : List Jvm.Cond} {w : Jvm.Cond} (h : w ∈ ev_W0 mk cl more) (hn : ev_isNest w = false) : w ∈ ev_W1 mk cl more := List.mem_filter.mpr ⟨h, by rw [hn]; rfl⟩
theorem ev_inB {mk : List ev_Mk} {cl : List vw_C} {more : List Jvm.Cond} {a : Nat} {m : ev_Mk} (h : mk[a]? = some m) {w : Jvm.Cond} (hw : w ∈ ev_blk m) : w ∈ ev_W0 mk cl more := List.mem_append_left _ (List.mem_flatMap.mpr ⟨m, List.mem_of_getElem? h, hw⟩)
theorem ev_inM {mk : List ev_Mk} {cl : List vw_C} {more : List Jvm.Cond} {k : Nat} {w : Jvm.Cond} (h : more[k]? = some w) : w ∈ ev_W0 mk cl more := List.mem_append_right _ (List.mem_append_right _ (List.mem_of_getElem? h))
theorem ev_inC {mk : List ev_Mk} {cl : List vw_C} {more : List Jvm.Cond} {k : Nat} {c : vw_C} (h : cl[k]? = some c) {w : Jvm.Cond} (hw : w ∈ u_ws c.1 c.2.1 c.2.2) : w ∈ ev_W0 mk cl more := List.mem_append_right _ (List.mem_append_left _ (List.mem_flatMap.mpr ⟨c, List.mem_of_getElem? h, hw⟩))
def ev_ckF (more : List Jvm.Cond) (own : String) (idx : Nat) (f : String × String × String × Bool) (w : Nat) : Bool := match more[w]? with
  | some (.fieldLink o i c n d) => decide (o = own) && Nat.beq i idx && decide (c = f.1) && decide (n = f.2.1) && decide (d = f.2.2.1)
  | some (.fieldLinkNest o i c n d _) => decide (o = own) && Nat.beq i idx && decide (c = f.1) && decide (n = f.2.1) && decide (d = f.2.2.1)
  | _ => false
def ev_isFL (more : List Jvm.Cond) (w : Nat) : Bool := match more[w]? with
  | some (.fieldLink _ _ _ _ _) => true
  | _ => false
def ev_ckM (more : List Jvm.Cond) (own : String) (idx : Nat) (y : MethodName) (w : Nat) : Bool := match more[w]? with
  | some (.methodLink o i x) => decide (o = own) && Nat.beq i idx && decide (x = y)
  | some (.methodLinkNest o i x _) => decide (o = own) && Nat.beq i idx && decide (x = y)
  | _ => false
def ev_ckB (more : List Jvm.Cond) (own : String) (idx : Nat) (m : ev_Me) (n w : Nat) : Bool :=
  Nat.ble m.2.2.1 45 && decide (m.1.cls ≠ "java/lang/invoke/MethodHandle") && decide (m.1.cls ≠ "java/lang/invoke/VarHandle") && decide ((parseMethodDescriptor m.1.desc).map (fun d => d.parameters.length) = some n) && ev_ckM more own idx m.1 w
def ev_ckT (tyf : Nat → Nat → FieldType) (dfl : Nat → Nat) (a j : Nat) : Bool :=
  (Nat.beq (ev_tyc (tyf a j)) 10 && Nat.beq (ev_at (dfl a) j) 18446744073709551616) || (Nat.beq (ev_tyc (tyf a j)) 20 && Nat.beq (ev_at (dfl a) j) 55340232221128654848) || (Nat.blt (ev_tyc (tyf a j)) 3 && Nat.beq (ev_at (dfl a) j) 0)
def ev_ckI (more : List Jvm.Cond) (cl : List vw_C) (dfl : Nat → Nat) (tyf : Nat → Nat → FieldType) (mk : List ev_Mk) (own : String) (ini : Bool) (i : Instr) (a b t w : Nat) : Bool := match i with
  | .getfield idx => (match cl[a]? with
    | some c => Nat.blt b c.2.2 && ev_ckF more own idx (c.2.1 b) w
    | none => false)
  | .putfield idx => (match cl[a]? with
    | some c => Nat.blt b c.2.2 && ev_ckF more own idx (c.2.1 b) w && (match parseFieldDescriptor (c.2.1 b).2.2.1 with
        | some ty => Nat.beq (ev_tyc ty) t
        | none => false) && (!(c.2.1 b).2.2.2 || (ini && decide ((c.2.1 b).1 = own) && ev_isFL more w))
    | none => false)
  | .newarray atype => decide (newarray.typeOf atype = ev_ty "" a) && Nat.ble a 10 && decide (more[w]? = some (.arrayClass (newarray.typeOf atype)))
  | .new idx => (match cl[a]? with
    | some c => Nat.beq c.2.2 b && decide (more[w]? = some (.classLink own idx c.1)) && decide (more[w + 1]? = some (.instantiable c.1 b)) && decide (more[w + 2]? = some (.initialized c.1)) && (List.range b).all (ev_ckT tyf dfl a)
    | none => false)
  | .ldc idx => !(ev_isI a) || decide (more[w]? = some (.constant own idx (nI a)))
  | .ldc_w idx => decide (more[w]? = some (.constant own idx (nI a)))
  | .ldc2_w idx => decide (more[w]? = some (.constantLong own idx (lN a)))
  | .invokespecial idx => bif Nat.beq b 0 then decide (more[w]? = some (.methodLink own idx objectInit)) && decide (more[w + 1]? = some (.instanceMethod objectInit)) && decide (more[w + 2]? = some (.code objectInit ⟨#[0xb1]⟩ 1 none))
    else (match mk[a]? with
    | some m => Nat.beq m.2 2 && decide (m.1.2.2.2.1 = none) && decide (m.1.1.name = "<init>") && ev_ckB more own idx m.1 (b - 1) w
    | none => false)
  | .invokestatic idx => (match mk[a]? with
    | some m => Nat.beq m.2 1 && ev_ckB more own idx m.1 b w
    | none => false)
  | .invokevirtual idx => (match mk[a]?, cl[t]? with
    | some m, some c => Nat.beq m.2 0 && decide (c.1 = m.1.1.cls) && Nat.blt t 1000 && Nat.blt 0 b && ev_ckB more own idx m.1 (b - 1) w
    | _, _ => false)
  | _ => true
/-- the further rules' words -/
def ev_ckKK (more : List Jvm.Cond) (cl : List vw_C) (dfl : Nat → Nat) (tyf : Nat → Nat → FieldType) (oc own : String) (i : Instr) (a b t w : Nat) : Bool := match i with
  | .getfield idx => !(Nat.beq a 1 && Nat.blt b 2) || decide (more[w]? = some (.fieldLink own idx "java/lang/String" (bif Nat.beq b 0 then "value" else "coder") (bif Nat.beq b 0 then "[B" else "B")))
  | .ldc idx => !(ev_isK a) || (decide (own = ev_kOwn tyf (a - 92233720368547758080)) && Nat.beq idx (dfl (4000 + (a - 92233720368547758080))))
  | .getstatic idx => (!(Nat.beq a 1) || decide (more[w]? = some (.fieldLink own idx "java/lang/String" "COMPACT_STRINGS" "Z"))) && (!(ev_isX a) || decide (more[w]? = some (.fieldLink own idx "jdk/internal/util/Preconditions" "SIOOBE_FORMATTER" "Ljava/util/function/BiFunction;")))
  | .invokestatic idx => !(Nat.beq a 999) || (decide (more[w]? = some (.methodLink own idx arraycopyName)) && (decide (more[w + 1]? = some (.native arraycopyName)) && (decide (more[w + 2]? = some (.static arraycopyName)) && decide (more[w + 3]? = some (.initialized "java/lang/System")))))
  | .new idx => !(Nat.beq t 1) || (match cl[a]?, cl[1]? with
    | some c, some c1 => decide (c.1 = c1.1) && (Nat.beq c.2.2 b && (Nat.beq c1.2.2 2 && (Nat.ble 2 b && ((List.range 2).all (fun k => decide ((c.2.1 k).1 = (c1.2.1 k).1) && (decide ((c.2.1 k).2.1 = (c1.2.1 k).2.1) && decide ((c.2.1 k).2.2.1 = (c1.2.1 k).2.2.1))) && (decide (more[w]? = some (.classLink own idx c.1)) && (decide (more[w + 1]? = some (.instantiable c.1 b)) && (decide (more[w + 2]? = some (.initialized c.1)) && (List.range 2).all (fun j => (Nat.beq (ev_tyc (tyf a j)) 20 && Nat.beq (ev_at (dfl 1) j) 55340232221128654848) || (Nat.blt (ev_tyc (tyf a j)) 3 && Nat.beq (ev_at (dfl 1) j) 0)))))))))
    | _, _ => false)
  | .anewarray idx => decide (more[w]? = some (.classLink own idx oc)) && decide (ev_kOc tyf = oc)
  | .aastore => (match cl[a]? with
    | some c => decide (c.1 = oc)
    | none => false)
  | _ => true
def ev_ck (more : List Jvm.Cond) (cl : List vw_C) (dfl : Nat → Nat) (tyf : Nat → Nat → FieldType) (mk : List ev_Mk) (oc own : String) (ini : Bool) (cc : ByteArray) (x : ev_I) : Bool :=
  decide (decode cc x.1 = .ok (x.2.1, ev_len x.2.1 x.2.2.1)) && ((ev_pre x.2.1 x.2.2.2.1 x.2.2.2.2.2.1 || ev_ckI more cl dfl tyf mk own ini x.2.1 x.2.2.2.1 x.2.2.2.2.1 x.2.2.2.2.2.1 x.2.2.2.2.2.2) && ev_ckKK more cl dfl tyf oc own x.2.1 x.2.2.2.1 x.2.2.2.2.1 x.2.2.2.2.2.1 x.2.2.2.2.2.2)
def ev_ckMe (more : List Jvm.Cond) (cl : List vw_C) (dfl : Nat → Nat) (tyf : Nat → Nat → FieldType) (mk : List ev_Mk) (oc : String) (m : ev_Mk) : Bool :=
  plainName m.1.1.cls && m.1.2.2.2.2.all (fun l => l.all (ev_ck more cl dfl tyf mk oc m.1.1.cls (decide (m.1.1.name = "<init>")) m.1.2.1))
section EVK
variable {more : List Jvm.Cond} {cl : List vw_C} {dfl : Nat → Nat} {tyf : Nat → Nat → FieldType} {mk : List ev_Mk} {own : String} {args : Array Value} {s : State}
theorem ev_ckF_ok (hW : ∀ w ∈ ev_W0 mk cl more, w.before args s = true) {idx w : Nat} {f : String × String × String × Bool} (h : ev_ckF more own idx f w = true) :
    ((Jvm.Cond.fieldLink own idx f.1 f.2.1 f.2.2.1).before args s = true ∨ ∃ host, (Jvm.Cond.fieldLinkNest own idx f.1 f.2.1 f.2.2.1 host).before args s = true) ∧ (ev_isFL more w = true → (Jvm.Cond.fieldLink own idx f.1 f.2.1 f.2.2.1).before args s = true) := by
  unfold ev_ckF at h
  unfold ev_isFL
  split at h
  · rename_i o i c n d hm
    simp only [Bool.and_eq_true, decide_eq_true_eq] at h
    obtain ⟨⟨⟨⟨h1, h2⟩, h3⟩, h4⟩, h5⟩ := h
    obtain rfl := Nat.eq_of_beq_eq_true h2
    rw [← h1, ← h3, ← h4, ← h5]
    exact ⟨Or.inl (hW _ (ev_inM hm)), fun _ => hW _ (ev_inM hm)⟩
  · rename_i o i c n d host hm
    simp only [Bool.and_eq_true, decide_eq_true_eq] at h
    obtain ⟨⟨⟨⟨h1, h2⟩, h3⟩, h4⟩, h5⟩ := h
    obtain rfl := Nat.eq_of_beq_eq_true h2
    rw [← h1, ← h3, ← h4, ← h5]
    exact ⟨Or.inr ⟨host, hW _ (ev_inM hm)⟩, fun q => by rw [hm] at q; cases q⟩
  · cases h
theorem ev_ckB_ok (hW : ∀ w ∈ ev_W0 mk cl more, w.before args s = true) {idx n w a : Nat} {m : ev_Mk} (hm : mk[a]? = some m) (h : ev_ckB more own idx m.1 n w = true) : ev_lkB (ev_W1 mk cl more) args s own idx m.1.1 m.1.2.1 m.1.2.2.1 m.1.2.2.2.1 n := by
  unfold ev_ckB at h
  simp only [Bool.and_eq_true, decide_eq_true_eq] at h
  obtain ⟨⟨⟨⟨h1, h2⟩, h3⟩, h4⟩, h5⟩ := h
  refine ⟨Nat.le_of_ble_eq_true h1, ev_W1_of (ev_inB hm (by simp [ev_blk])) rfl, hW _ (ev_inB hm (by simp [ev_blk])), ⟨h2, h3, h4⟩, ?_⟩
  unfold ev_ckM at h5
  split at h5
  · rename_i o i x hx
    simp only [Bool.and_eq_true, decide_eq_true_eq] at h5
    obtain ⟨⟨g1, g2⟩, g3⟩ := h5
    obtain rfl := Nat.eq_of_beq_eq_true g2
    rw [← g1, ← g3]
    exact Or.inl (hW _ (ev_inM hx))
  · rename_i o i x host hx
    simp only [Bool.and_eq_true, decide_eq_true_eq] at h5
    obtain ⟨⟨g1, g2⟩, g3⟩ := h5
    obtain rfl := Nat.eq_of_beq_eq_true g2
    rw [← g1, ← g3]
    exact Or.inr ⟨host, va_Nw.of rfl (hW _ (ev_inM hx))⟩
  · cases h5
theorem ev_ckI_ok (hW : ∀ w ∈ ev_W0 mk cl more, w.before args s = true) {ini : Bool} {inp : Prop} (hini : ini = true → inp) {i : Instr} {a b t w : Nat} (h : ev_ckI more cl dfl tyf mk own ini i a b t w = true) :
    ev_lk cl dfl tyf own inp args s i a b t ∧ ev_lkC (ev_W1 mk cl more) cl (mk.map Prod.fst) own args s i a b t := by
  cases i with
  | getfield idx =>
    simp only [ev_ckI] at h
    split at h
    · rename_i c hc
      simp only [Bool.and_eq_true] at h
      exact ⟨⟨c.1, c.2.1, c.2.2, hc, Nat.blt_eq.mp h.1, (ev_ckF_ok hW h.2).1⟩, trivial⟩
    · cases h
  | putfield idx =>
    simp only [ev_ckI] at h
    split at h
    · rename_i c hc
      simp only [Bool.and_eq_true] at h
      obtain ⟨⟨⟨h1, h2⟩, h3⟩, h4⟩ := h
      split at h3
      · rename_i ty hty
        refine ⟨⟨c.1, c.2.1, c.2.2, ty, hc, Nat.blt_eq.mp h1, hty, Nat.eq_of_beq_eq_true h3, ?_⟩, trivial⟩
        cases hf : (c.2.1 b).2.2.2
        · exact Or.inl ⟨rfl, (ev_ckF_ok hW h2).1⟩
        · rw [hf] at h4
          simp only [Bool.not_true, Bool.false_or, Bool.and_eq_true, decide_eq_true_eq] at h4
          exact Or.inr ⟨rfl, hini h4.1.1, h4.1.2, (ev_ckF_ok hW h2).2 h4.2⟩
      · cases h3
    · cases h
  | newarray atype =>
    simp only [ev_ckI, Bool.and_eq_true, decide_eq_true_eq] at h
    exact ⟨⟨h.1.1, Nat.le_of_ble_eq_true h.1.2, hW _ (ev_inM h.2)⟩, trivial⟩
  | new idx =>
    simp only [ev_ckI] at h
    split at h
    · rename_i c hc
      simp only [Bool.and_eq_true, decide_eq_true_eq] at h
      obtain ⟨⟨⟨⟨h1, h2⟩, h3⟩, h4⟩, h5⟩ := h
      have h1 := Nat.eq_of_beq_eq_true h1
      refine ⟨⟨c.1, c.2.1, ?_, hW _ (ev_inM h2), hW _ (ev_inM h3), hW _ (ev_inM h4), fun j hj => ?_⟩, trivial⟩
      · rw [hc, ← h1]
      · have h6 := List.all_eq_true.mp h5 j (List.mem_range.mpr hj)
        simp only [ev_ckT, Bool.or_eq_true, Bool.and_eq_true] at h6
        rcases h6 with (h6 | h6) | h6
        · exact Or.inl ⟨Nat.eq_of_beq_eq_true h6.1, Nat.eq_of_beq_eq_true h6.2⟩
        · exact Or.inr (Or.inl ⟨Nat.eq_of_beq_eq_true h6.1, Nat.eq_of_beq_eq_true h6.2⟩)
        · exact Or.inr (Or.inr ⟨Nat.blt_eq.mp h6.1, Nat.eq_of_beq_eq_true h6.2⟩)
    · cases h
  | ldc idx =>
    simp only [ev_ckI, Bool.or_eq_true, decide_eq_true_eq] at h
    refine ⟨fun hi => ?_, trivial⟩
    rcases h with h | h
    · rw [hi] at h; cases h
    · exact hW _ (ev_inM h)
  | ldc_w idx =>
    simp only [ev_ckI, decide_eq_true_eq] at h
    exact ⟨hW _ (ev_inM h), trivial⟩
  | ldc2_w idx =>
    simp only [ev_ckI, decide_eq_true_eq] at h
    exact ⟨hW _ (ev_inM h), trivial⟩
  | invokespecial idx =>
    simp only [ev_ckI] at h
    refine ⟨trivial, ?_⟩
    cases hb : Nat.beq b 0
    · rw [hb, cond_false] at h
      split at h
      · rename_i m hm
        simp only [Bool.and_eq_true, decide_eq_true_eq] at h
        obtain ⟨⟨⟨h1, h2⟩, h3⟩, h4⟩ := h
        have h1 := Nat.eq_of_beq_eq_true h1
        have hb := ev_not_beq hb
        obtain ⟨n, rfl⟩ := Nat.exists_eq_succ_of_ne_zero hb
        have hB := ev_ckB_ok hW hm h4
        rw [h2] at hB
        refine Or.inr ⟨n, m.1.1, m.1.2.1, m.1.2.2.1, m.1.2.2.2.2, rfl, ?_, hB, h3, hW _ (ev_inB hm (by simp [ev_blk, h1]))⟩
        rw [List.getElem?_map, hm, ← h2]
        rfl
      · cases h
    · rw [hb, cond_true] at h
      simp only [Bool.and_eq_true, decide_eq_true_eq] at h
      exact Or.inl ⟨Nat.eq_of_beq_eq_true hb, hW _ (ev_inM h.1.1), hW _ (ev_inM h.1.2), hW _ (ev_inM h.2)⟩
  | invokestatic idx =>
    simp only [ev_ckI] at h
    refine ⟨trivial, ?_⟩
    split at h
    · rename_i m hm
      simp only [Bool.and_eq_true] at h
      have h1 := Nat.eq_of_beq_eq_true h.1
      refine ⟨m.1.1, m.1.2.1, m.1.2.2.1, m.1.2.2.2.1, m.1.2.2.2.2, ?_, ev_ckB_ok hW hm h.2, hW _ (ev_inB hm (by simp [ev_blk, h1]))⟩
      rw [List.getElem?_map, hm]
      rfl
    · cases h
  | invokevirtual idx =>
    simp only [ev_ckI] at h
    refine ⟨trivial, ?_⟩
    split at h
    · rename_i m c hm hc
      simp only [Bool.and_eq_true, decide_eq_true_eq] at h
      obtain ⟨⟨⟨⟨h1, h2⟩, h3⟩, h4⟩, h5⟩ := h
      have h1 := Nat.eq_of_beq_eq_true h1
      have h4 := Nat.blt_eq.mp h4
      obtain ⟨n, rfl⟩ := Nat.exists_eq_succ_of_ne_zero (Nat.ne_of_gt h4)
      refine ⟨n, m.1.1, m.1.2.1, m.1.2.2.1, m.1.2.2.2.1, m.1.2.2.2.2, c.1, c.2.1, c.2.2, rfl, ?_, hc, Nat.blt_eq.mp h3, ev_ckB_ok hW hm h5, hW _ (ev_inB hm (by simp [ev_blk, h1])), ?_⟩
      · rw [List.getElem?_map, hm]
        rfl
      · rw [h2]
        exact hW _ (ev_inB hm (by simp [ev_blk, h1]))
    · cases h
  | _ => exact ⟨trivial, trivial⟩
theorem ev_ckKK_ok (hW : ∀ w ∈ ev_W0 mk cl more, w.before args s = true) {oc : String} {i : Instr} {a b t w : Nat} (h : ev_ckKK more cl dfl tyf oc own i a b t w = true) : ev_lkK cl dfl tyf oc own args s i a b t := by
  cases i with
  | getfield idx =>
    simp only [ev_ckKK, Bool.or_eq_true, decide_eq_true_eq] at h
    intro ha hb
    rcases h with h | h
    · rw [ha, Nat.blt_eq.mpr hb] at h; cases h
    · exact hW _ (ev_inM h)
  | ldc idx =>
    simp only [ev_ckKK, Bool.or_eq_true, Bool.and_eq_true, decide_eq_true_eq] at h
    intro ha
    rcases h with h | h
    · rw [ha] at h; cases h
    · exact ⟨h.1, Nat.eq_of_beq_eq_true h.2⟩
  | getstatic idx =>
    simp only [ev_ckKK, Bool.and_eq_true, Bool.or_eq_true, decide_eq_true_eq] at h
    refine ⟨fun ha => ?_, fun ha => ?_⟩
    · rcases h.1 with h | h
      · rw [ha] at h; cases h
      · exact hW _ (ev_inM h)
    · rcases h.2 with h | h
      · rw [ha] at h; cases h
      · exact hW _ (ev_inM h)
  | invokestatic idx =>
    simp only [ev_ckKK, Bool.or_eq_true, Bool.and_eq_true, decide_eq_true_eq] at h
    intro ha
    rcases h with h | h
    · rw [ha] at h; cases h
    · exact ⟨hW _ (ev_inM h.1), hW _ (ev_inM h.2.1), hW _ (ev_inM h.2.2.1), hW _ (ev_inM h.2.2.2)⟩
  | new idx =>
    simp only [ev_ckKK, Bool.or_eq_true] at h
    intro ha
    rcases h with h | h
    · rw [ha] at h; cases h
    · split at h
      · rename_i c c1 hc hc1
        simp only [Bool.and_eq_true, decide_eq_true_eq] at h
        obtain ⟨g1, g2, g3, g4, g5, g6, g7, g8, g9⟩ := h
        have g2 := Nat.eq_of_beq_eq_true g2
        have g3 := Nat.eq_of_beq_eq_true g3
        refine ⟨c.1, c.2.1, c1.2.1, by rw [hc, ← g2], by rw [hc1, g1, ← g3], Nat.le_of_ble_eq_true g4, fun k hk => ?_, hW _ (ev_inM g6), hW _ (ev_inM g7), hW _ (ev_inM g8), fun j hj => ?_⟩
        · have := List.all_eq_true.mp g5 k (List.mem_range.mpr hk)
          simp only [Bool.and_eq_true, decide_eq_true_eq] at this
          exact this
        · have := List.all_eq_true.mp g9 j (List.mem_range.mpr hj)
          simp only [Bool.or_eq_true, Bool.and_eq_true] at this
          rcases this with h | h
          · exact Or.inl ⟨Nat.eq_of_beq_eq_true h.1, Nat.eq_of_beq_eq_true h.2⟩
          · exact Or.inr ⟨Nat.blt_eq.mp h.1, Nat.eq_of_beq_eq_true h.2⟩
      · cases h
  | anewarray idx =>
    simp only [ev_ckKK, Bool.and_eq_true, decide_eq_true_eq] at h
    exact ⟨hW _ (ev_inM h.1), h.2⟩
  | aastore =>
    simp only [ev_ckKK] at h
    split at h
    · rename_i c hc
      have h := of_decide_eq_true h
      exact ⟨c.2.1, c.2.2, by rw [hc, ← h]⟩
    · cases h
  | _ => trivial
end EVK
theorem ev_Tab_of {more : List Jvm.Cond} {cl : List vw_C} {dfl : Nat → Nat} {tyf : Nat → Nat → FieldType} {mk : List ev_Mk} {oc : String} (h : ∀ (k : Nat) (m : ev_Mk), mk[k]? = some m → ev_ckMe more cl dfl tyf mk oc m = true) : ev_Tab (ev_W1 mk cl more) (ev_W0 mk cl more) cl dfl tyf (mk.map Prod.fst) oc := by
  intro mid y bytes maxL rt code hm
  rw [List.getElem?_map] at hm
  cases hk : mk[mid]? with
  | none => rw [hk] at hm; cases hm
  | some m =>
    rw [hk] at hm
    have hm : m.1 = (y, bytes, maxL, rt, code) := Option.some.inj hm
    have hc := h mid m hk
    unfold ev_ckMe at hc
    rw [hm] at hc
    simp only [Bool.and_eq_true] at hc
    refine ⟨hc.1, fun ini args s hW hini l hl x hx => ?_⟩
    have h2 := List.all_eq_true.mp (List.all_eq_true.mp hc.2 l hl) x hx
    unfold ev_ck at h2
    simp only [Bool.and_eq_true, decide_eq_true_eq] at h2
    refine ⟨h2.1, fun hp => ?_, ev_ckKK_ok hW h2.2.2⟩
    have h3 := h2.2.1
    rw [hp, Bool.false_or] at h3
    exact ev_ckI_ok hW (inp := ini) (fun q => hini (of_decide_eq_true q)) h3
theorem ev_uws {C : String} {T : u_T} {N : Nat} {w : Jvm.Cond} (h : w ∈ u_ws C T N) : ev_isNest w = false := by
  unfold u_ws at h
  obtain ⟨k, _, rfl⟩ := List.mem_map.mp h
  unfold u_lay
  split <;> rfl
def ev_ckC (tyf : Nat → Nat → FieldType) (k : Nat) (c : vw_C) : Bool := (List.range c.2.2).all (fun j => decide (parseFieldDescriptor (c.2.1 j).2.2.1 = some (tyf k j)))
theorem ev_Cls_of {more : List Jvm.Cond} {cl : List vw_C} {tyf : Nat → Nat → FieldType} {mk : List ev_Mk} (hl : cl.length ≤ 1000) (h1 : ∀ (k : Nat) (c : vw_C), cl[k]? = some c → ev_ckC tyf k c = true) (h2 : ∀ (k : Nat) (c : vw_C), cl[k]? = some c → ∀ a, a < c.2.2 → ∀ b, b < c.2.2 → a ≠ b → (c.2.1 a).2.1 ≠ (c.2.1 b).2.1) : ev_Cls (ev_W1 mk cl more) cl tyf := by
  refine ⟨hl, fun ci C T N hc => ⟨fun w hw => ev_W1_of (ev_inC (c := (C, T, N)) hc hw) (ev_uws hw), fun k hk => ?_, h2 ci (C, T, N) hc⟩⟩
  have := List.all_eq_true.mp (h1 ci _ hc) k (List.mem_range.mpr hk)
  exact of_decide_eq_true this
end
