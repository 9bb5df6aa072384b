/-! ===== 57: small rules for the writer of walks (by wip/whole2/gw.py) ===== -/
section WG
variable {d : Nat} {cf : Nat → List Nat → ev_H → Option ev_A} {code : List (List ev_I)} {rt : Option FieldType} {pc a b t w ln nc ns : Nat} {L st : List Nat} {sh : List (Nat × Nat)} {F : wq_F} {K : Option Nat → List (Nat × Nat) → wq_F → Nat → Nat → Prop}
theorem wq_top {x y : Nat} (h : x = y) (k : wq cf code rt pc L (y :: st) sh F nc ns K) : wq cf code rt pc L (x :: st) sh F nc ns K := h ▸ k
theorem wq_iaddZ {x y z : Nat} (hf : ev_ft code pc = some (pc, .iadd, ln, a, b, t, w)) (hx : x < 4294967296) (hy : y < 4294967296) (hz : (x + y) % 4294967296 = z) (k : wq cf code rt (pc + 1) L (z :: st) sh F nc ns K) : wq cf code rt pc L (y :: x :: st) sh F nc ns K := wq_iadd hf hx hy (by subst hz; exact k)
theorem wq_isubZ {x y z : Nat} (hf : ev_ft code pc = some (pc, .isub, ln, a, b, t, w)) (hx : x < 4294967296) (hy : y < 4294967296) (hz : (x + (4294967296 - y)) % 4294967296 = z) (k : wq cf code rt (pc + 1) L (z :: st) sh F nc ns K) : wq cf code rt pc L (y :: x :: st) sh F nc ns K := wq_isub hf hx hy (by subst hz; exact k)
theorem wq_iincZ {x n z : Nat} {zz : Int} {L' : List Nat} (hf : ev_ft code pc = some (pc, .iinc n zz, ln, a, b, t, w)) (hL : L[n]? = some x) (hx : x < 4294967296) (hp : n = 0 ∨ ∃ y, L[n - 1]? = some y ∧ ev_isL y = false) (hz : decide (nI a = Int32.ofInt zz) = true) (hq : (x + a) % 4294967296 = z) (hL' : L.set n z = L') (k : wq cf code rt (pc + 3) L' st sh F nc ns K) : wq cf code rt pc L st sh F nc ns K := wq_iinc hf hL hx hp hz (by subst hq; exact hL') k
theorem wm_zlt {x : Nat} (h : x < 2) : x < 4294967296 := by omega
theorem wm_cast {x y : Nat} (h : x = y) (hx : x < 4294967296) : y < 4294967296 := h ▸ hx
theorem wm_castL {x y : Nat} (h : x = y) (hx : ev_isL x = true) : ev_isL y = true := h ▸ hx
theorem wm_fitZ {v : Nat} (h : v < 2) : ev_fit 2 v = true := Nat.blt_eq.mpr h
theorem wm_al_L {x : Nat} (h : x < 18446744073709551616) : ev_isL (18446744073709551616 + x) = true := wq_L (Nat.le_add_right _ _) (by omega)
theorem wm_subL {v : Nat} (h : ev_isL v = true) : v - 18446744073709551616 < 18446744073709551616 := by
  have := ev_isL_s h
  omega
theorem wm_b8b8 (v : Nat) : ev_b8 (ev_b8 v) = ev_b8 v := by
  unfold ev_b8
  cases hq : (v % 256).blt 128
  · have h1 : ¬ v % 256 < 128 := wq_bltF hq
    simp only [cond_false]
    have h2 : (v % 256 + 4294967040) % 256 = v % 256 := by omega
    rw [h2, hq]
    rfl
  · simp only [cond_true, Nat.mod_mod, hq]
theorem wq_i2c_lt (x : Nat) : ev_oI2c x < 4294967296 := Nat.lt_trans (Nat.mod_lt _ (by decide)) (by decide)
theorem wq_i2l_L {x : Nat} (h : x < 4294967296) : ev_isL (ev_oI2l x) = true := by
  unfold ev_oI2l
  cases hq : x.blt 2147483648
  · simp only [cond_false]
    exact wq_L (Nat.le_add_right _ _) (by omega)
  · simp only [cond_true]
    exact wq_L (Nat.le_add_right _ _) (by omega)
theorem ev_cat_le : ∀ l : List Nat, ev_cat l ≤ 2 * l.length
  | [] => Nat.le_refl _
  | x :: l => by
    have := ev_cat_le l
    show (bif ev_isL x then 2 else 1) + ev_cat l ≤ 2 * (l.length + 1)
    cases ev_isL x <;> simp only [cond_true, cond_false] <;> omega
theorem wm_virtI {ix n x : Nat} {as rest tl : List Nat} {F' : wq_F} (hf : ev_ft code pc = some (pc, .invokevirtual ix, ln, a, n, 0, w)) (ho : st.drop (n - 1) = 36893488147419103232 :: tl) (hn0 : 0 < n) (hn : n ≤ st.length) (hd : st.drop n = rest) (hl : 2 * rest.length ≤ 8) (has : (st.take n).reverse = as) (hm : mq d a as wm_sh F (wq_k (some x) wm_sh F'))
    (k : wq (wq_cf d) code rt (pc + 3) L (x :: rest) wm_sh F' nc ns K) : wq (wq_cf d) code rt pc L st wm_sh F nc ns K := wm_virt hf ho hn0 hn hd (Nat.le_trans (ev_cat_le _) hl) has hm k
theorem wm_virtV {ix n : Nat} {as rest tl : List Nat} {F' : wq_F} (hf : ev_ft code pc = some (pc, .invokevirtual ix, ln, a, n, 0, w)) (ho : st.drop (n - 1) = 36893488147419103232 :: tl) (hn0 : 0 < n) (hn : n ≤ st.length) (hd : st.drop n = rest) (hl : 2 * rest.length ≤ 8) (has : (st.take n).reverse = as) (hm : mq d a as wm_sh F (wq_k none wm_sh F'))
    (k : wq (wq_cf d) code rt (pc + 3) L rest wm_sh F' nc ns K) : wq (wq_cf d) code rt pc L st wm_sh F nc ns K := wm_virt hf ho hn0 hn hd (Nat.le_trans (ev_cat_le _) hl) has hm k
theorem wm_statI {ix n x : Nat} {as rest : List Nat} {F' : wq_F} (hf : ev_ft code pc = some (pc, .invokestatic ix, ln, a, n, t, w)) (ha : a < 997) (hn : n ≤ st.length) (hd : st.drop n = rest) (hl : 2 * rest.length ≤ 8) (has : (st.take n).reverse = as) (hm : mq d a as wm_sh F (wq_k (some x) wm_sh F'))
    (k : wq (wq_cf d) code rt (pc + 3) L (x :: rest) wm_sh F' nc ns K) : wq (wq_cf d) code rt pc L st wm_sh F nc ns K := wm_stat hf ha hn hd (Nat.le_trans (ev_cat_le _) hl) has hm k
theorem wq_k1 {r r' : Nat} {sh : List (Nat × Nat)} {F : wq_F} (h : r' = r) : wq_k (some r) sh F (some r') sh F 0 0 := ⟨congrArg some h, rfl, rfl, rfl, rfl⟩
theorem wm_entI {x : Nat} {l : List Nat} (h : x < 4294967296) : ev_ent (x :: l) = x :: ev_ent l := by
  simp only [ev_ent, wq_notL h, cond_false]
theorem wm_entR {k : Nat} {l : List Nat} (h : k < 1000) : ev_ent ((36893488147419103232 + k) :: l) = (36893488147419103232 + k) :: ev_ent l := by
  have : ev_isL (36893488147419103232 + k) = false := by
    unfold ev_isL
    rw [show Nat.blt (36893488147419103232 + k) 36893488147419103232 = false from by
      cases hq : Nat.blt (36893488147419103232 + k) 36893488147419103232
      · rfl
      · have := Nat.blt_eq.mp hq
        omega, Bool.and_false]
  simp only [ev_ent, this, cond_false]
end WG
