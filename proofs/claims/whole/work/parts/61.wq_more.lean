/-! ===== 61: rules for switches, for more of the arithmetic (by wip/whole2/law61.py) ===== -/
section WS
variable {d : Nat} {cf : Nat → List Nat → ev_H → Option ev_A} {code : List (List ev_I)} {rt : Option FieldType} {pc a b t w ln nc ns : Nat} {L st : List Nat} {sh : List (Nat × Nat)} {F : wq_F} {K : Option Nat → List (Nat × Nat) → wq_F → Nat → Nat → Prop}
theorem wq_tsw {dflt lo hi : Int} {offs : Array Int} {x tgt : Nat} (hf : ev_ft code pc = some (pc, .tableswitch dflt lo hi offs, ln, a, b, t, w)) (hx : x < 4294967296) (hs : ev_ts2 (ev_si x) dflt lo hi offs pc L st = some (tgt, L, st)) (k : wq cf code rt tgt L st sh F nc ns K) : wq cf code rt pc L (x :: st) sh F nc ns K :=
  wq_fr hf rfl rfl (fun h => by simp only [ev_step, ev_stH, ev_stA, ev_ts, wq_I hx, cond_true, hs]) k
theorem wq_tswD {dflt lo hi : Int} {offs : Array Int} {x tgt : Nat} (hf : ev_ft code pc = some (pc, .tableswitch dflt lo hi offs, ln, a, b, t, w)) (hx : x < 4294967296) (h : ev_si x < lo ∨ hi < ev_si x) (ho : decide (0 ≤ (pc : Int) + dflt) = true) (ht : ((pc : Int) + dflt).toNat = tgt) (k : wq cf code rt tgt L st sh F nc ns K) : wq cf code rt pc L (x :: st) sh F nc ns K := by
  refine wq_tsw hf hx ?_ k
  have h1 : (decide (ev_si x < lo) || decide (hi < ev_si x)) = true := by
    rcases h with h | h
    · rw [decide_eq_true h, Bool.true_or]
    · rw [decide_eq_true h, Bool.or_true]
  unfold ev_ts2
  rw [h1, cond_true]
  unfold ev_sw
  rw [ho, cond_true, ht]
theorem wq_stK {x : ev_I} {pc' : Nat} {L' st' : List Nat} (hf : ev_ft code pc = some x) (he : ev_isRet x.2.1 = false) (hp : ev_pre x.2.1 x.2.2.2.1 x.2.2.2.2.2.1 = false) (h0 : ∀ h : ev_H, ev_step 0 al_dfl cf x.2.1 x.2.2.2.1 x.2.2.2.2.1 x.2.2.2.2.2.1 pc L st h nc ns = none) (h : ∀ h : ev_H, ev_stK 0 al_dfl cf x.2.1 x.2.2.2.1 x.2.2.2.2.1 x.2.2.2.2.2.1 pc L st h nc ns = some ((pc', L', st'), h, nc, ns)) (k : wq cf code rt pc' L' st' sh F nc ns K) : wq cf code rt pc L st sh F nc ns K :=
  wq_one hf he (fun B hB => ⟨B, hB, by unfold ev_stepX; rw [hp, cond_false, h0]; exact h _⟩) (Nat.le_refl _) (Nat.le_refl _) k
theorem wq_lsw {dflt : Int} {ps : Array (Int × Int)} {x tgt : Nat} (hf : ev_ft code pc = some (pc, .lookupswitch dflt ps, ln, a, b, t, w)) (hx : x < 4294967296) (hso : (ps.toList.zip (ps.toList.drop 1)).all (fun (a, next) => a.1 < next.1) = true) (hs : ev_sw pc (Op.lookupswitch.offset ps.toList dflt (ev_si x)) L st = some (tgt, L, st)) (k : wq cf code rt tgt L st sh F nc ns K) : wq cf code rt pc L (x :: st) sh F nc ns K :=
  wq_stK hf rfl rfl (fun h => rfl) (fun h => by simp only [ev_stK, wq_I hx, hso, Bool.and_self, cond_true, hs]) k
theorem wq_lswO {l : List (Int × Int)} {dflt z : Int} (h : ∀ p ∈ l, p.1 ≠ z) : Op.lookupswitch.offset l dflt z = dflt := by
  induction l with
  | nil => rfl
  | cons p r ih =>
    obtain ⟨u, o⟩ := p
    rw [Op.lookupswitch.offset_cons, if_neg (h (u, o) List.mem_cons_self)]
    exact ih (fun q hq => h q (List.mem_cons_of_mem _ hq))
theorem wq_lswD {dflt : Int} {ps : Array (Int × Int)} {x tgt : Nat} (hf : ev_ft code pc = some (pc, .lookupswitch dflt ps, ln, a, b, t, w)) (hx : x < 4294967296) (hso : (ps.toList.zip (ps.toList.drop 1)).all (fun (a, next) => a.1 < next.1) = true) (h : ∀ p ∈ ps.toList, p.1 ≠ ev_si x) (ho : decide (0 ≤ (pc : Int) + dflt) = true) (ht : ((pc : Int) + dflt).toNat = tgt) (k : wq cf code rt tgt L st sh F nc ns K) : wq cf code rt pc L (x :: st) sh F nc ns K := by
  refine wq_lsw hf hx hso ?_ k
  rw [wq_lswO h]
  unfold ev_sw
  rw [ho, cond_true, ht]
theorem wq_siNe {x v : Nat} (hx : x < 4294967296) (hv : v < 2147483648) (h : ¬ x = v) : (v : Int) ≠ ev_si x := by
  unfold ev_si ev_s
  omega
theorem wq_siOf {x : Nat} (hx : x < 2147483648) : ev_si x = (x : Int) := by
  unfold ev_si ev_s
  omega
theorem wq_lor {x y : Nat} (hf : ev_ft code pc = some (pc, .lor, ln, a, b, t, w)) (hx : ev_isL x = true) (hy : ev_isL y = true)  (k : wq cf code rt (pc + 1) L (ev_oOrL x y :: st) sh F nc ns K) : wq cf code rt pc L (y :: x :: st) sh F nc ns K := by
  exact wq_stK hf rfl rfl (fun h => rfl) (fun h => by simp only [ev_stK, hy, hx, Bool.and_self, cond_true]) k
theorem wq_lshl {x y : Nat} (hf : ev_ft code pc = some (pc, .lshl, ln, a, b, t, w)) (hx : ev_isL x = true) (hy : y < 4294967296)  (k : wq cf code rt (pc + 1) L (ev_oShlL x y :: st) sh F nc ns K) : wq cf code rt pc L (y :: x :: st) sh F nc ns K := by
  exact wq_stK hf rfl rfl (fun h => rfl) (fun h => by simp only [ev_stK, wq_I hy, hx, Bool.and_self, cond_true]) k
theorem wq_lshr {x y : Nat} (hf : ev_ft code pc = some (pc, .lshr, ln, a, b, t, w)) (hx : ev_isL x = true) (hy : y < 4294967296)  (k : wq cf code rt (pc + 1) L (ev_oShrL x y :: st) sh F nc ns K) : wq cf code rt pc L (y :: x :: st) sh F nc ns K := by
  exact wq_stK hf rfl rfl (fun h => rfl) (fun h => by simp only [ev_stK, wq_I hy, hx, Bool.and_self, cond_true]) k
theorem wq_ldiv {x y : Nat} (hf : ev_ft code pc = some (pc, .ldiv, ln, a, b, t, w)) (hx : ev_isL x = true) (hy : ev_isL y = true) (hn : ¬ y = 18446744073709551616) (k : wq cf code rt (pc + 1) L (ev_oDivL x y :: st) sh F nc ns K) : wq cf code rt pc L (y :: x :: st) sh F nc ns K := by
  have hn2 : (!(Nat.beq y 18446744073709551616)) = true := by
    cases hq : Nat.beq y 18446744073709551616
    · rfl
    · exact absurd (Nat.eq_of_beq_eq_true hq) hn
  exact wq_stK hf rfl rfl (fun h => rfl) (fun h => by simp only [ev_stK, hy, hx, hn2, Bool.and_self, cond_true]) k
theorem wq_lrem {x y : Nat} (hf : ev_ft code pc = some (pc, .lrem, ln, a, b, t, w)) (hx : ev_isL x = true) (hy : ev_isL y = true) (hn : ¬ y = 18446744073709551616) (k : wq cf code rt (pc + 1) L (ev_oRemL x y :: st) sh F nc ns K) : wq cf code rt pc L (y :: x :: st) sh F nc ns K := by
  have hn2 : (!(Nat.beq y 18446744073709551616)) = true := by
    cases hq : Nat.beq y 18446744073709551616
    · rfl
    · exact absurd (Nat.eq_of_beq_eq_true hq) hn
  exact wq_stK hf rfl rfl (fun h => rfl) (fun h => by simp only [ev_stK, hy, hx, hn2, Bool.and_self, cond_true]) k
theorem wq_idiv {x y : Nat} (hf : ev_ft code pc = some (pc, .idiv, ln, a, b, t, w)) (hx : x < 4294967296) (hy : y < 4294967296) (hn : ¬ y = 0) (k : wq cf code rt (pc + 1) L (ev_oDiv x y :: st) sh F nc ns K) : wq cf code rt pc L (y :: x :: st) sh F nc ns K := by
  have hn2 : (!(Nat.beq y 0)) = true := by
    cases hq : Nat.beq y 0
    · rfl
    · exact absurd (Nat.eq_of_beq_eq_true hq) hn
  exact wq_stK hf rfl rfl (fun h => rfl) (fun h => by simp only [ev_stK, wq_I hy, wq_I hx, hn2, Bool.and_self, cond_true]) k
theorem wq_irem {x y : Nat} (hf : ev_ft code pc = some (pc, .irem, ln, a, b, t, w)) (hx : x < 4294967296) (hy : y < 4294967296) (hn : ¬ y = 0) (k : wq cf code rt (pc + 1) L (ev_oRem x y :: st) sh F nc ns K) : wq cf code rt pc L (y :: x :: st) sh F nc ns K := by
  have hn2 : (!(Nat.beq y 0)) = true := by
    cases hq : Nat.beq y 0
    · rfl
    · exact absurd (Nat.eq_of_beq_eq_true hq) hn
  exact wq_stK hf rfl rfl (fun h => rfl) (fun h => by simp only [ev_stK, wq_I hy, wq_I hx, hn2, Bool.and_self, cond_true]) k
theorem wq_lneg {x : Nat} (hf : ev_ft code pc = some (pc, .lneg, ln, a, b, t, w)) (hx : ev_isL x = true) (k : wq cf code rt (pc + 1) L (ev_oNegL x :: st) sh F nc ns K) : wq cf code rt pc L (x :: st) sh F nc ns K :=
  wq_stK hf rfl rfl (fun h => rfl) (fun h => by simp only [ev_stK, hx, cond_true]) k
theorem wq_ishr0 {x : Nat} (hf : ev_ft code pc = some (pc, .ishr, ln, a, b, t, w)) (hx : x < 4294967296) (k : wq cf code rt (pc + 1) L (x :: st) sh F nc ns K) : wq cf code rt pc L (0 :: x :: st) sh F nc ns K :=
  wq_stK hf rfl rfl (fun h => rfl) (fun h => by simp only [ev_stK, Nat.beq_refl, wq_I hx, Bool.and_self, cond_true]) k
end WS
theorem wq_Lof {n : Nat} (h : n < 18446744073709551616) : ev_isL (18446744073709551616 + n) = true := wq_L (Nat.le_add_right _ _) (by omega)
theorem wq_L_ladd {x y : Nat} (hx : ev_isL x = true) (hy : ev_isL y = true) : ev_isL (ev_oAddL (x - 18446744073709551616) (y - 18446744073709551616)) = true := wq_Lof (Nat.mod_lt _ (by decide))
theorem wq_L_lsub {x y : Nat} (hx : ev_isL x = true) (hy : ev_isL y = true) : ev_isL (ev_oSubL (x - 18446744073709551616) (y - 18446744073709551616)) = true := wq_Lof (Nat.mod_lt _ (by decide))
theorem wq_L_lmul {x y : Nat} (hx : ev_isL x = true) (hy : ev_isL y = true) : ev_isL (ev_oMulL (x - 18446744073709551616) (y - 18446744073709551616)) = true := wq_Lof (Nat.mod_lt _ (by decide))
theorem wq_L_land {x y : Nat} (hx : ev_isL x = true) (hy : ev_isL y = true) : ev_isL (ev_oAndL (x - 18446744073709551616) (y - 18446744073709551616)) = true := wq_Lof (Nat.lt_of_le_of_lt Nat.and_le_left (wm_subL hx))
theorem wq_L_lxor {x y : Nat} (hx : ev_isL x = true) (hy : ev_isL y = true) : ev_isL (ev_oXorL (x - 18446744073709551616) (y - 18446744073709551616)) = true := wq_Lof (Nat.xor_lt_two_pow (n := 64) (wm_subL hx) (wm_subL hy))
theorem wq_L_lor {x y : Nat} (hx : ev_isL x = true) (hy : ev_isL y = true) : ev_isL (ev_oOrL x y) = true := wq_Lof (BitVec.isLt _)
theorem wq_L_ldiv {x y : Nat} (hx : ev_isL x = true) (hy : ev_isL y = true) : ev_isL (ev_oDivL x y) = true := wq_Lof (BitVec.isLt _)
theorem wq_L_lrem {x y : Nat} (hx : ev_isL x = true) (hy : ev_isL y = true) : ev_isL (ev_oRemL x y) = true := wq_Lof (BitVec.isLt _)
theorem wq_L_lshl {x y : Nat} (hx : ev_isL x = true) (hy : y < 4294967296) : ev_isL (ev_oShlL x y) = true := wq_Lof (BitVec.isLt _)
theorem wq_L_lshr {x y : Nat} (hx : ev_isL x = true) (hy : y < 4294967296) : ev_isL (ev_oShrL x y) = true := wq_Lof (BitVec.isLt _)
theorem wq_L_lushr {x y : Nat} (hx : ev_isL x = true) (hy : y < 4294967296) : ev_isL (ev_oUshL x y) = true := wq_Lof (Nat.lt_of_le_of_lt (Nat.shiftRight_le _ _) (wm_subL hx))
theorem wq_L_lneg {x : Nat} (hx : ev_isL x = true) : ev_isL (ev_oNegL x) = true := wq_Lof (BitVec.isLt _)
theorem wq_oCmp_lt (x y : Nat) : ev_oCmpL x y < 4294967296 := by
  unfold ev_oCmpL
  cases (ev_sl y).blt (ev_sl x) <;> cases x.beq y <;> decide
theorem wq_I_iand {x y : Nat} (hx : x < 4294967296) (hy : y < 4294967296) : ev_oAnd x y < 4294967296 := Nat.lt_of_le_of_lt Nat.and_le_left hx
theorem wq_I_ior {x y : Nat} (hx : x < 4294967296) (hy : y < 4294967296) : ev_oOr x y < 4294967296 := Nat.or_lt_two_pow (n := 32) hx hy
theorem wq_I_ixor {x y : Nat} (hx : x < 4294967296) (hy : y < 4294967296) : ev_oXor x y < 4294967296 := Nat.xor_lt_two_pow (n := 32) hx hy
theorem wq_I_iushr {x y : Nat} (hx : x < 4294967296) (hy : y < 4294967296) : ev_oUsh x y < 4294967296 := Nat.lt_of_le_of_lt (Nat.shiftRight_le _ _) hx
