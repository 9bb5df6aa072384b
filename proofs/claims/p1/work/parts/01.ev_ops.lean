/-! ===== 01: numbers of the evaluator: an int is a Nat below 2^32, a long a Nat below 2^64; what each instruction does to them ===== -/
theorem ev_iext {x y : Int32} (h : x.toBitVec.toNat = y.toBitVec.toNat) : x = y := by
  apply Int32.toBitVec_inj.mp
  exact BitVec.eq_of_toNat_eq h
theorem ev_lext {x y : Int64} (h : x.toBitVec.toNat = y.toBitVec.toNat) : x = y := by
  apply Int64.toBitVec_inj.mp
  exact BitVec.eq_of_toNat_eq h
theorem ev_nIn (n : Nat) : (nI n).toBitVec.toNat = n % 4294967296 := by
  show (BitVec.ofNat 32 n).toNat = _
  simp
theorem ev_lNn (n : Nat) : (lN n).toBitVec.toNat = n % 18446744073709551616 := by
  show (BitVec.ofNat 64 n).toNat = _
  simp
theorem ev_nImod (n : Nat) : nI (n % 4294967296) = nI n := ev_iext (by rw [ev_nIn, ev_nIn, Nat.mod_mod])
theorem ev_lNmod (n : Nat) : lN (n % 18446744073709551616) = lN n := ev_lext (by rw [ev_lNn, ev_lNn, Nat.mod_mod])
theorem ev_nIof (v : Int32) : nI v.toBitVec.toNat = v := ev_iext (by rw [ev_nIn]; exact Nat.mod_eq_of_lt v.toBitVec.isLt)
theorem ev_addI (x y : Nat) : nI x + nI y = nI ((x + y) % 4294967296) := by rw [ev_nImod, nI_add]
theorem ev_mulI (x y : Nat) : nI x * nI y = nI ((x * y) % 4294967296) := by
  rw [ev_nImod]
  exact (Int32.ofNat_mul x y).symm
theorem ev_subI {x y : Nat} (hx : x < 4294967296) (hy : y < 4294967296) : nI x - nI y = nI ((x + (4294967296 - y)) % 4294967296) := by
  apply ev_iext
  rw [ev_nIn]
  rw [Int32.toBitVec_sub, BitVec.toNat_sub, ev_nIn, ev_nIn]
  omega
theorem ev_negI {x : Nat} (hx : x < 4294967296) : -(nI x) = nI ((4294967296 - x) % 4294967296) := by
  apply ev_iext
  rw [ev_nIn, Int32.toBitVec_neg, BitVec.toNat_neg, ev_nIn]
  omega
theorem ev_andI {x y : Nat} (hx : x < 4294967296) (hy : y < 4294967296) : nI x &&& nI y = nI (x &&& y) := by
  apply ev_iext
  rw [ev_nIn, Int32.toBitVec_and, BitVec.toNat_and, ev_nIn, ev_nIn, Nat.mod_eq_of_lt hx, Nat.mod_eq_of_lt hy, Nat.mod_eq_of_lt (Nat.lt_of_le_of_lt Nat.and_le_left hx)]
theorem ev_orI {x y : Nat} (hx : x < 4294967296) (hy : y < 4294967296) : nI x ||| nI y = nI (x ||| y) := by
  apply ev_iext
  rw [ev_nIn, Int32.toBitVec_or, BitVec.toNat_or, ev_nIn, ev_nIn, Nat.mod_eq_of_lt hx, Nat.mod_eq_of_lt hy, Nat.mod_eq_of_lt (Nat.or_lt_two_pow (n := 32) hx hy)]
theorem ev_xorI {x y : Nat} (hx : x < 4294967296) (hy : y < 4294967296) : nI x ^^^ nI y = nI (x ^^^ y) := by
  apply ev_iext
  rw [ev_nIn, Int32.toBitVec_xor, BitVec.toNat_xor, ev_nIn, ev_nIn, Nat.mod_eq_of_lt hx, Nat.mod_eq_of_lt hy, Nat.mod_eq_of_lt (Nat.xor_lt_two_pow (n := 32) hx hy)]
/-- an int's place among the signed ones -/
def ev_s (x : Nat) : Nat := (x + 2147483648) % 4294967296
theorem ev_toI {x : Nat} (hx : x < 4294967296) : (nI x).toInt = (ev_s x : Int) - 2147483648 := by
  show (nI x).toBitVec.toInt = _
  rw [BitVec.toInt_eq_toNat_cond, ev_nIn, Nat.mod_eq_of_lt hx]
  unfold ev_s
  split <;> omega
theorem ev_ltI {x y : Nat} (hx : x < 4294967296) (hy : y < 4294967296) : nI x < nI y ↔ ev_s x < ev_s y := by
  rw [Int32.lt_iff_toInt_lt, ev_toI hx, ev_toI hy]
  omega
theorem ev_leI {x y : Nat} (hx : x < 4294967296) (hy : y < 4294967296) : nI x ≤ nI y ↔ ev_s x ≤ ev_s y := by
  rw [Int32.le_iff_toInt_le, ev_toI hx, ev_toI hy]
  omega
theorem ev_eqI {x y : Nat} (hx : x < 4294967296) (hy : y < 4294967296) : nI x = nI y ↔ x = y := by
  constructor
  · intro h
    have h2 := congrArg (fun v : Int32 => v.toBitVec.toNat) h
    simp only [ev_nIn] at h2
    omega
  · intro h; rw [h]
theorem ev_ushrI {x y : Nat} (hx : x < 4294967296) (hy : y < 4294967296) : ((nI x).toUInt32 >>> ((nI y).toUInt32 &&& Int32.toUInt32 31)).toInt32 = nI (x >>> (y % 32)) := by
  apply ev_iext
  rw [ev_nIn]
  show ((nI x).toUInt32 >>> ((nI y).toUInt32 &&& Int32.toUInt32 31)).toNat = _
  rw [UInt32.toNat_shiftRight, UInt32.toNat_and]
  have e1 : (nI x).toUInt32.toNat = x := by show (nI x).toBitVec.toNat = x; rw [ev_nIn]; exact Nat.mod_eq_of_lt hx
  have e2 : (nI y).toUInt32.toNat = y := by show (nI y).toBitVec.toNat = y; rw [ev_nIn]; exact Nat.mod_eq_of_lt hy
  have e3 : (Int32.toUInt32 31).toNat = 31 := by decide
  rw [e1, e2, e3, show (31 : Nat) = 2 ^ 5 - 1 from rfl, Nat.and_two_pow_sub_one_eq_mod]
  have h1 : y % 2 ^ 5 % 32 = y % 32 := by omega
  rw [h1]
  exact (Nat.mod_eq_of_lt (Nat.lt_of_le_of_lt (Nat.shiftRight_le x _) hx)).symm
theorem ev_i2l {x : Nat} (hx : x < 4294967296) : (nI x).toInt64 = lN (bif x.blt 2147483648 then x else x + 18446744069414584320) := by
  apply Int64.toInt_inj.mp
  rw [Int32.toInt_toInt64, ev_toI hx]
  show _ = (lN _).toBitVec.toInt
  rw [BitVec.toInt_eq_toNat_cond, ev_lNn]
  unfold ev_s
  cases hq : x.blt 2147483648
  · have : ¬ x < 2147483648 := fun q => by rw [Nat.blt_eq.mpr q] at hq; cases hq
    simp only [cond_false]
    split <;> omega
  · have : x < 2147483648 := Nat.blt_eq.mp hq
    simp only [cond_true]
    split <;> omega
theorem ev_l2i (n : Nat) : (lN n).toInt32 = nI (n % 4294967296) := by rw [lN_i, ev_nImod]
theorem ev_i2b {x : Nat} (hx : x < 4294967296) : (nI x).toInt8.toInt32 = nI (bif (x % 256).blt 128 then x % 256 else x % 256 + 4294967040) := by
  apply Int32.toInt_inj.mp
  rw [Int8.toInt_toInt32]
  show (nI x).toInt8.toBitVec.toInt = (nI _).toBitVec.toInt
  rw [BitVec.toInt_eq_toNat_cond, BitVec.toInt_eq_toNat_cond, ev_nIn]
  have e1 : (nI x).toInt8.toBitVec.toNat = x % 256 := by
    have : (nI x).toInt8.toBitVec = (nI x).toBitVec.signExtend 8 := by first | rfl | exact Int32.toBitVec_toInt8 _
    rw [this, BitVec.signExtend_eq_setWidth_of_le _ (by decide), BitVec.toNat_setWidth, ev_nIn]
    omega
  rw [e1]
  cases hq : (x % 256).blt 128
  · have : ¬ x % 256 < 128 := fun q => by rw [Nat.blt_eq.mpr q] at hq; cases hq
    simp only [cond_false]
    split <;> split <;> omega
  · have : x % 256 < 128 := Nat.blt_eq.mp hq
    simp only [cond_true]
    split <;> split <;> omega
theorem ev_i2c {x : Nat} (hx : x < 4294967296) : ((nI x).toUInt32 % 65536).toInt32 = nI (x % 65536) := by
  rw [pk_char, ev_nIn, Nat.mod_eq_of_lt hx]
theorem ev_addL (x y : Nat) : lN x + lN y = lN ((x + y) % 18446744073709551616) := by rw [ev_lNmod, lN_add]
theorem ev_mulL (x y : Nat) : lN x * lN y = lN ((x * y) % 18446744073709551616) := by rw [ev_lNmod, lN_mul]
theorem ev_subL {x y : Nat} (hx : x < 18446744073709551616) (hy : y < 18446744073709551616) : lN x - lN y = lN ((x + (18446744073709551616 - y)) % 18446744073709551616) := by
  apply ev_lext
  rw [ev_lNn]
  rw [Int64.toBitVec_sub, BitVec.toNat_sub, ev_lNn, ev_lNn]
  omega
theorem ev_andL {x y : Nat} (hx : x < 18446744073709551616) (hy : y < 18446744073709551616) : lN x &&& lN y = lN (x &&& y) := by
  apply ev_lext
  rw [ev_lNn, Int64.toBitVec_and, BitVec.toNat_and, ev_lNn, ev_lNn, Nat.mod_eq_of_lt hx, Nat.mod_eq_of_lt hy, Nat.mod_eq_of_lt (Nat.lt_of_le_of_lt Nat.and_le_left hx)]
theorem ev_xorL {x y : Nat} (hx : x < 18446744073709551616) (hy : y < 18446744073709551616) : lN x ^^^ lN y = lN (x ^^^ y) := by
  apply ev_lext
  rw [ev_lNn, Int64.toBitVec_xor, BitVec.toNat_xor, ev_lNn, ev_lNn, Nat.mod_eq_of_lt hx, Nat.mod_eq_of_lt hy, Nat.mod_eq_of_lt (Nat.xor_lt_two_pow (n := 64) hx hy)]
theorem ev_ushrL {x y : Nat} (hx : x < 18446744073709551616) (hy : y < 4294967296) : ((lN x).toUInt64 >>> ((nI y).toInt64.toUInt64 &&& Int64.toUInt64 63)).toInt64 = lN (x >>> (y % 64)) := by
  apply ev_lext
  rw [ev_lNn]
  show ((lN x).toUInt64 >>> ((nI y).toInt64.toUInt64 &&& Int64.toUInt64 63)).toNat = _
  rw [UInt64.toNat_shiftRight, UInt64.toNat_and, ev_i2l hy]
  have e1 : (lN x).toUInt64.toNat = x := by show (lN x).toBitVec.toNat = x; rw [ev_lNn]; exact Nat.mod_eq_of_lt hx
  have e2 : ∀ z : Nat, (lN z).toUInt64.toNat = z % 18446744073709551616 := fun z => by show (lN z).toBitVec.toNat = _; rw [ev_lNn]
  have e3 : (Int64.toUInt64 63).toNat = 63 := by decide
  rw [e1, e2, e3, show (63 : Nat) = 2 ^ 6 - 1 from rfl, Nat.and_two_pow_sub_one_eq_mod]
  have h1 : (bif y.blt 2147483648 then y else y + 18446744069414584320) % 18446744073709551616 % 2 ^ 6 % 64 = y % 64 := by
    cases y.blt 2147483648 <;> simp only [cond_true, cond_false] <;> omega
  rw [h1]
  exact (Nat.mod_eq_of_lt (Nat.lt_of_le_of_lt (Nat.shiftRight_le x _) hx)).symm
/-- a long's place among the signed ones -/
def ev_sl (x : Nat) : Nat := (x + 9223372036854775808) % 18446744073709551616
theorem ev_toL {x : Nat} (hx : x < 18446744073709551616) : (lN x).toInt = (ev_sl x : Int) - 9223372036854775808 := by
  show (lN x).toBitVec.toInt = _
  rw [BitVec.toInt_eq_toNat_cond, ev_lNn, Nat.mod_eq_of_lt hx]
  unfold ev_sl
  split <;> omega
theorem ev_cmpL {x y : Nat} (hx : x < 18446744073709551616) (hy : y < 18446744073709551616) : lg_cmp (lN x) (lN y) = nI (bif (ev_sl y).blt (ev_sl x) then 1 else bif x.beq y then 0 else 4294967295) := by
  have hlt : ∀ {a b : Nat}, a < 18446744073709551616 → b < 18446744073709551616 → (lN a < lN b ↔ ev_sl a < ev_sl b) := by
    intro a b ha hb
    rw [Int64.lt_iff_toInt_lt, ev_toL ha, ev_toL hb]
    omega
  have heq : lN x = lN y ↔ x = y := by
    constructor
    · intro h
      have h2 := congrArg (fun v : Int64 => v.toBitVec.toNat) h
      simp only [ev_lNn] at h2
      omega
    · intro h; rw [h]
  unfold lg_cmp
  cases h1 : (ev_sl y).blt (ev_sl x)
  · have q1 : ¬ lN y < lN x := fun q => by rw [Nat.blt_eq.mpr ((hlt hy hx).mp q)] at h1; cases h1
    cases h2 : x.beq y
    · have q2 : ¬ lN x = lN y := fun q => by rw [heq.mp q, Nat.beq_refl] at h2; cases h2
      simp only [q1, q2, if_false, cond_false]
      rfl
    · have q2 : lN x = lN y := heq.mpr (Nat.eq_of_beq_eq_true h2)
      simp only [q1, if_false, cond_false, cond_true]
      rw [if_pos q2]
      rfl
  · have q1 : lN y < lN x := (hlt hy hx).mpr (Nat.blt_eq.mp h1)
    simp only [q1, if_true, cond_true]
    rfl
/-! rows of numbers packed into one: place j holds the bits 72 j .. 72 j + 71 -/
def ev_at (A j : Nat) : Nat := (A >>> (72 * j)) % 4722366482869645213696
def ev_up (A j v : Nat) : Nat := A ^^^ (((ev_at A j) ^^^ v) <<< (72 * j))
theorem ev_at_tb (A j i : Nat) : (ev_at A j).testBit i = (decide (i < 72) && A.testBit (72 * j + i)) := by
  unfold ev_at
  rw [show (4722366482869645213696 : Nat) = 2 ^ 72 from rfl, Nat.testBit_mod_two_pow, Nat.testBit_shiftRight]
theorem ev_at_lt (A j : Nat) : ev_at A j < 4722366482869645213696 := Nat.mod_lt _ (by decide)
theorem ev_at_0 (j : Nat) : ev_at 0 j = 0 := by unfold ev_at; rw [Nat.zero_shiftRight]
theorem ev_at_up {A j v : Nat} (hv : v < 4722366482869645213696) (k : Nat) : ev_at (ev_up A j v) k = if k = j then v else ev_at A k := by
  apply Nat.eq_of_testBit_eq
  intro i
  have hvi : ∀ i, 72 ≤ i → v.testBit i = false := fun i hi => Nat.testBit_lt_two_pow (Nat.lt_of_lt_of_le hv (Nat.pow_le_pow_right (n := 2) (by decide) hi))
  rw [ev_at_tb]
  unfold ev_up
  rw [Nat.testBit_xor, Nat.testBit_shiftLeft, Nat.testBit_xor, ev_at_tb]
  by_cases hkj : k = j
  · subst hkj
    rw [if_pos rfl]
    have e1 : 72 * k ≤ 72 * k + i := Nat.le_add_right _ _
    have e2 : 72 * k + i - 72 * k = i := by omega
    rw [e2]
    simp only [e1, decide_true, Bool.true_and, ge_iff_le]
    by_cases hi : i < 72
    · simp [hi]
    · have := hvi i (by omega)
      simp [hi, this]
  · rw [if_neg hkj, ev_at_tb]
    by_cases hi : i < 72
    · simp only [hi, decide_true, Bool.true_and]
      have h0 : (decide (72 * k + i ≥ 72 * j) && ((decide (72 * k + i - 72 * j < 72) && A.testBit (72 * j + (72 * k + i - 72 * j))) ^^ v.testBit (72 * k + i - 72 * j))) = false := by
        by_cases hq : 72 * j ≤ 72 * k + i
        · have hge : 72 ≤ 72 * k + i - 72 * j := by omega
          have hnl : ¬ 72 * k + i - 72 * j < 72 := by omega
          have := hvi _ hge
          simp [hnl, this]
        · simp [hq]
      rw [h0]
      simp
    · simp [hi]
/-- how a signed byte stands as an int -/
def ev_b8 (x : Nat) : Nat := bif (x % 256).blt 128 then x % 256 else x % 256 + 4294967040
