/-! ===== 73: rules for functions on memories, written by wip/whole2/dc.py ===== -/
section OD
variable {α : Type}
def od_g (c : Prop) [Decidable c] (k : Option α) : Option α := if c then k else none
def od_let (v : Nat) (k : Nat → Option α) : Option α := k v
def od_up (F : wq_F) (c i v : Nat) (k : wq_F → Option α) : Option α := k (wq_up F c i v)
theorem od_gE {c : Prop} [Decidable c] {k : Option α} {x : α} (h : od_g c k = some x) : c ∧ k = some x := by
  unfold od_g at h
  by_cases q : c
  · rw [if_pos q] at h; exact ⟨q, h⟩
  · rw [if_neg q] at h; cases h
theorem od_g1 {c : Prop} [Decidable c] {k : Option α} (q : c) : od_g c k = k := if_pos q
theorem od_letE {v : Nat} {k : Nat → Option α} {x : α} (h : od_let v k = some x) : ∃ y, y = v ∧ k y = some x := ⟨v, rfl, h⟩
theorem od_upE {F : wq_F} {c i v : Nat} {k : wq_F → Option α} {x : α} (h : od_up F c i v k = some x) : ∃ G, G = wq_up F c i v ∧ k G = some x := ⟨_, rfl, h⟩
theorem od_bindE {β : Type} {o : Option β} {k : β → Option α} {x : α} (h : o.bind k = some x) : ∃ y, o = some y ∧ k y = some x := by
  cases o with
  | none => cases h
  | some y => exact ⟨y, rfl, h⟩
theorem od_pos {c : Prop} [Decidable c] {p q : Option α} {x : α} (h : (if c then p else q) = some x) (hc : c) : p = some x := (if_pos hc).symm.trans h
theorem od_neg {c : Prop} [Decidable c] {p q : Option α} {x : α} (h : (if c then p else q) = some x) (hc : ¬ c) : q = some x := (if_neg hc).symm.trans h
end OD
theorem wd_lt {x y b : Nat} (e : x = y) (h : y < b) : x < b := e ▸ h
theorem wd_ge {x y : Nat} (e : x = y) (h : ev_isL y = true) : ev_isL x = true := e ▸ h
theorem wd_T {T : wq_F → Prop} {F G : wq_F} (e : F = G) (h : T G) : T F := e ▸ h
theorem wd_idiv (x y : Nat) : ev_oDiv x y < 4294967296 := BitVec.isLt _
theorem wd_irem (x y : Nat) : ev_oRem x y < 4294967296 := BitVec.isLt _
theorem wd_and2 {x y : Nat} (h : x < 2) : ev_oAnd x y < 2 := Nat.lt_of_le_of_lt Nat.and_le_left h
theorem ev_cat_c {x n : Nat} {l : List Nat} (h : ev_isL x = false) (hl : ev_cat l ≤ n) : ev_cat (x :: l) ≤ n + 1 := by
  show (bif ev_isL x then 2 else 1) + ev_cat l ≤ n + 1
  rw [h, cond_false]
  omega
theorem wd_entL {x : Nat} {l : List Nat} (h : ev_isL x = true) : ev_ent (x :: l) = x :: 73786976294838206464 :: ev_ent l := by
  simp only [ev_ent, h, cond_true]
/-- a method answers y.1 (an int, a truth, a long; or nothing) and leaves y.2 -/
def wkI (T : wq_F → Prop) (sh : List (Nat × Nat)) (y : Nat × wq_F) : Option Nat → List (Nat × Nat) → wq_F → Nat → Nat → Prop := fun r sh' F' mc ms => r = some y.1 ∧ sh' = sh ∧ F' = y.2 ∧ mc = 0 ∧ ms = 0 ∧ y.1 < 4294967296 ∧ T y.2
def wkZ (T : wq_F → Prop) (sh : List (Nat × Nat)) (y : Nat × wq_F) : Option Nat → List (Nat × Nat) → wq_F → Nat → Nat → Prop := fun r sh' F' mc ms => r = some y.1 ∧ sh' = sh ∧ F' = y.2 ∧ mc = 0 ∧ ms = 0 ∧ y.1 < 2 ∧ T y.2
def wkL (T : wq_F → Prop) (sh : List (Nat × Nat)) (y : Nat × wq_F) : Option Nat → List (Nat × Nat) → wq_F → Nat → Nat → Prop := fun r sh' F' mc ms => r = some y.1 ∧ sh' = sh ∧ F' = y.2 ∧ mc = 0 ∧ ms = 0 ∧ ev_isL y.1 = true ∧ T y.2
def wkN (T : wq_F → Prop) (sh : List (Nat × Nat)) (y : Nat × wq_F) : Option Nat → List (Nat × Nat) → wq_F → Nat → Nat → Prop := fun r sh' F' mc ms => r = none ∧ sh' = sh ∧ F' = y.2 ∧ mc = 0 ∧ ms = 0 ∧ T y.2
section WD
variable {T : wq_F → Prop} {d : Nat} {cf : Nat → List Nat → ev_H → Option ev_A} {code : List (List ev_I)} {rt : Option FieldType} {pc a b t w ln nc ns : Nat} {L st : List Nat} {sh : List (Nat × Nat)} {F : wq_F} {K : Option Nat → List (Nat × Nat) → wq_F → Nat → Nat → Prop}
theorem wkOI {v : Nat} {x : Nat × wq_F} (h : some (v, F) = some x) (hT : T F) (hv : v < 4294967296) : wkI T sh x (some v) sh F 0 0 := by
  cases h
  exact ⟨rfl, rfl, rfl, rfl, rfl, hv, hT⟩
theorem wkOZ {v : Nat} {x : Nat × wq_F} (h : some (v, F) = some x) (hT : T F) (hv : v < 2) : wkZ T sh x (some v) sh F 0 0 := by
  cases h
  exact ⟨rfl, rfl, rfl, rfl, rfl, hv, hT⟩
theorem wkOL {v : Nat} {x : Nat × wq_F} (h : some (v, F) = some x) (hT : T F) (hv : ev_isL v = true) : wkL T sh x (some v) sh F 0 0 := by
  cases h
  exact ⟨rfl, rfl, rfl, rfl, rfl, hv, hT⟩
theorem wkON {x : Nat × wq_F} (h : some (0, F) = some x) (hT : T F) : wkN T sh x none sh F 0 0 := by
  cases h
  exact ⟨rfl, rfl, rfl, rfl, rfl, hT⟩
theorem wd_virtI {ix n q ci nf : Nat} {as rest tl : List Nat} {y : Nat × wq_F} (hf : ev_ft code pc = some (pc, .invokevirtual ix, ln, a, n, ci, w)) (ho : st.drop (n - 1) = (36893488147419103232 + q) :: tl) (hq : sh[q]? = some (ci, nf)) (hqb : q < 1000) (hn0 : 0 < n) (hn : n ≤ st.length) (hd : st.drop n = rest) (hl : 2 * rest.length ≤ 8) (has : (st.take n).reverse = as) (hm : mq d a as sh F (wkI T sh y))
    (k : y.1 < 4294967296 → T y.2 → wq (wq_cf d) code rt (pc + 3) L (y.1 :: rest) sh y.2 nc ns K) : wq (wq_cf d) code rt pc L st sh F nc ns K :=
  wq_virt (q := q) hf ho hq (by omega) hn0 hn hd (Nat.le_trans (ev_cat_le _) hl) has (mq_mono hm (fun r sh' F2 mc ms h => by
    obtain ⟨rfl, rfl, rfl, rfl, rfl, hv, hT⟩ := h
    exact k hv hT))
theorem wd_statI {ix n : Nat} {as rest : List Nat} {y : Nat × wq_F} (hf : ev_ft code pc = some (pc, .invokestatic ix, ln, a, n, t, w)) (ha : a < 997) (hn : n ≤ st.length) (hd : st.drop n = rest) (hl : 2 * rest.length ≤ 8) (has : (st.take n).reverse = as) (hm : mq d a as sh F (wkI T sh y))
    (k : y.1 < 4294967296 → T y.2 → wq (wq_cf d) code rt (pc + 3) L (y.1 :: rest) sh y.2 nc ns K) : wq (wq_cf d) code rt pc L st sh F nc ns K :=
  wq_stat hf ha hn hd (Nat.le_trans (ev_cat_le _) hl) has (mq_mono hm (fun r sh' F2 mc ms h => by
    obtain ⟨rfl, rfl, rfl, rfl, rfl, hv, hT⟩ := h
    exact k hv hT))
theorem wd_virtIC {ix n q ci nf : Nat} {as rest tl : List Nat} {y : Nat × wq_F} (hf : ev_ft code pc = some (pc, .invokevirtual ix, ln, a, n, ci, w)) (ho : st.drop (n - 1) = (36893488147419103232 + q) :: tl) (hq : sh[q]? = some (ci, nf)) (hqb : q < 1000) (hn0 : 0 < n) (hn : n ≤ st.length) (hd : st.drop n = rest) (hl : ev_cat rest ≤ 8) (has : (st.take n).reverse = as) (hm : mq d a as sh F (wkI T sh y))
    (k : y.1 < 4294967296 → T y.2 → wq (wq_cf d) code rt (pc + 3) L (y.1 :: rest) sh y.2 nc ns K) : wq (wq_cf d) code rt pc L st sh F nc ns K :=
  wq_virt (q := q) hf ho hq (by omega) hn0 hn hd hl has (mq_mono hm (fun r sh' F2 mc ms h => by
    obtain ⟨rfl, rfl, rfl, rfl, rfl, hv, hT⟩ := h
    exact k hv hT))
theorem wd_statIC {ix n : Nat} {as rest : List Nat} {y : Nat × wq_F} (hf : ev_ft code pc = some (pc, .invokestatic ix, ln, a, n, t, w)) (ha : a < 997) (hn : n ≤ st.length) (hd : st.drop n = rest) (hl : ev_cat rest ≤ 8) (has : (st.take n).reverse = as) (hm : mq d a as sh F (wkI T sh y))
    (k : y.1 < 4294967296 → T y.2 → wq (wq_cf d) code rt (pc + 3) L (y.1 :: rest) sh y.2 nc ns K) : wq (wq_cf d) code rt pc L st sh F nc ns K :=
  wq_stat hf ha hn hd hl has (mq_mono hm (fun r sh' F2 mc ms h => by
    obtain ⟨rfl, rfl, rfl, rfl, rfl, hv, hT⟩ := h
    exact k hv hT))
theorem wd_virtZ {ix n q ci nf : Nat} {as rest tl : List Nat} {y : Nat × wq_F} (hf : ev_ft code pc = some (pc, .invokevirtual ix, ln, a, n, ci, w)) (ho : st.drop (n - 1) = (36893488147419103232 + q) :: tl) (hq : sh[q]? = some (ci, nf)) (hqb : q < 1000) (hn0 : 0 < n) (hn : n ≤ st.length) (hd : st.drop n = rest) (hl : 2 * rest.length ≤ 8) (has : (st.take n).reverse = as) (hm : mq d a as sh F (wkZ T sh y))
    (k : y.1 < 2 → T y.2 → wq (wq_cf d) code rt (pc + 3) L (y.1 :: rest) sh y.2 nc ns K) : wq (wq_cf d) code rt pc L st sh F nc ns K :=
  wq_virt (q := q) hf ho hq (by omega) hn0 hn hd (Nat.le_trans (ev_cat_le _) hl) has (mq_mono hm (fun r sh' F2 mc ms h => by
    obtain ⟨rfl, rfl, rfl, rfl, rfl, hv, hT⟩ := h
    exact k hv hT))
theorem wd_statZ {ix n : Nat} {as rest : List Nat} {y : Nat × wq_F} (hf : ev_ft code pc = some (pc, .invokestatic ix, ln, a, n, t, w)) (ha : a < 997) (hn : n ≤ st.length) (hd : st.drop n = rest) (hl : 2 * rest.length ≤ 8) (has : (st.take n).reverse = as) (hm : mq d a as sh F (wkZ T sh y))
    (k : y.1 < 2 → T y.2 → wq (wq_cf d) code rt (pc + 3) L (y.1 :: rest) sh y.2 nc ns K) : wq (wq_cf d) code rt pc L st sh F nc ns K :=
  wq_stat hf ha hn hd (Nat.le_trans (ev_cat_le _) hl) has (mq_mono hm (fun r sh' F2 mc ms h => by
    obtain ⟨rfl, rfl, rfl, rfl, rfl, hv, hT⟩ := h
    exact k hv hT))
theorem wd_virtZC {ix n q ci nf : Nat} {as rest tl : List Nat} {y : Nat × wq_F} (hf : ev_ft code pc = some (pc, .invokevirtual ix, ln, a, n, ci, w)) (ho : st.drop (n - 1) = (36893488147419103232 + q) :: tl) (hq : sh[q]? = some (ci, nf)) (hqb : q < 1000) (hn0 : 0 < n) (hn : n ≤ st.length) (hd : st.drop n = rest) (hl : ev_cat rest ≤ 8) (has : (st.take n).reverse = as) (hm : mq d a as sh F (wkZ T sh y))
    (k : y.1 < 2 → T y.2 → wq (wq_cf d) code rt (pc + 3) L (y.1 :: rest) sh y.2 nc ns K) : wq (wq_cf d) code rt pc L st sh F nc ns K :=
  wq_virt (q := q) hf ho hq (by omega) hn0 hn hd hl has (mq_mono hm (fun r sh' F2 mc ms h => by
    obtain ⟨rfl, rfl, rfl, rfl, rfl, hv, hT⟩ := h
    exact k hv hT))
theorem wd_statZC {ix n : Nat} {as rest : List Nat} {y : Nat × wq_F} (hf : ev_ft code pc = some (pc, .invokestatic ix, ln, a, n, t, w)) (ha : a < 997) (hn : n ≤ st.length) (hd : st.drop n = rest) (hl : ev_cat rest ≤ 8) (has : (st.take n).reverse = as) (hm : mq d a as sh F (wkZ T sh y))
    (k : y.1 < 2 → T y.2 → wq (wq_cf d) code rt (pc + 3) L (y.1 :: rest) sh y.2 nc ns K) : wq (wq_cf d) code rt pc L st sh F nc ns K :=
  wq_stat hf ha hn hd hl has (mq_mono hm (fun r sh' F2 mc ms h => by
    obtain ⟨rfl, rfl, rfl, rfl, rfl, hv, hT⟩ := h
    exact k hv hT))
theorem wd_virtL {ix n q ci nf : Nat} {as rest tl : List Nat} {y : Nat × wq_F} (hf : ev_ft code pc = some (pc, .invokevirtual ix, ln, a, n, ci, w)) (ho : st.drop (n - 1) = (36893488147419103232 + q) :: tl) (hq : sh[q]? = some (ci, nf)) (hqb : q < 1000) (hn0 : 0 < n) (hn : n ≤ st.length) (hd : st.drop n = rest) (hl : 2 * rest.length ≤ 8) (has : (st.take n).reverse = as) (hm : mq d a as sh F (wkL T sh y))
    (k : ev_isL y.1 = true → T y.2 → wq (wq_cf d) code rt (pc + 3) L (y.1 :: rest) sh y.2 nc ns K) : wq (wq_cf d) code rt pc L st sh F nc ns K :=
  wq_virt (q := q) hf ho hq (by omega) hn0 hn hd (Nat.le_trans (ev_cat_le _) hl) has (mq_mono hm (fun r sh' F2 mc ms h => by
    obtain ⟨rfl, rfl, rfl, rfl, rfl, hv, hT⟩ := h
    exact k hv hT))
theorem wd_statL {ix n : Nat} {as rest : List Nat} {y : Nat × wq_F} (hf : ev_ft code pc = some (pc, .invokestatic ix, ln, a, n, t, w)) (ha : a < 997) (hn : n ≤ st.length) (hd : st.drop n = rest) (hl : 2 * rest.length ≤ 8) (has : (st.take n).reverse = as) (hm : mq d a as sh F (wkL T sh y))
    (k : ev_isL y.1 = true → T y.2 → wq (wq_cf d) code rt (pc + 3) L (y.1 :: rest) sh y.2 nc ns K) : wq (wq_cf d) code rt pc L st sh F nc ns K :=
  wq_stat hf ha hn hd (Nat.le_trans (ev_cat_le _) hl) has (mq_mono hm (fun r sh' F2 mc ms h => by
    obtain ⟨rfl, rfl, rfl, rfl, rfl, hv, hT⟩ := h
    exact k hv hT))
theorem wd_virtLC {ix n q ci nf : Nat} {as rest tl : List Nat} {y : Nat × wq_F} (hf : ev_ft code pc = some (pc, .invokevirtual ix, ln, a, n, ci, w)) (ho : st.drop (n - 1) = (36893488147419103232 + q) :: tl) (hq : sh[q]? = some (ci, nf)) (hqb : q < 1000) (hn0 : 0 < n) (hn : n ≤ st.length) (hd : st.drop n = rest) (hl : ev_cat rest ≤ 8) (has : (st.take n).reverse = as) (hm : mq d a as sh F (wkL T sh y))
    (k : ev_isL y.1 = true → T y.2 → wq (wq_cf d) code rt (pc + 3) L (y.1 :: rest) sh y.2 nc ns K) : wq (wq_cf d) code rt pc L st sh F nc ns K :=
  wq_virt (q := q) hf ho hq (by omega) hn0 hn hd hl has (mq_mono hm (fun r sh' F2 mc ms h => by
    obtain ⟨rfl, rfl, rfl, rfl, rfl, hv, hT⟩ := h
    exact k hv hT))
theorem wd_statLC {ix n : Nat} {as rest : List Nat} {y : Nat × wq_F} (hf : ev_ft code pc = some (pc, .invokestatic ix, ln, a, n, t, w)) (ha : a < 997) (hn : n ≤ st.length) (hd : st.drop n = rest) (hl : ev_cat rest ≤ 8) (has : (st.take n).reverse = as) (hm : mq d a as sh F (wkL T sh y))
    (k : ev_isL y.1 = true → T y.2 → wq (wq_cf d) code rt (pc + 3) L (y.1 :: rest) sh y.2 nc ns K) : wq (wq_cf d) code rt pc L st sh F nc ns K :=
  wq_stat hf ha hn hd hl has (mq_mono hm (fun r sh' F2 mc ms h => by
    obtain ⟨rfl, rfl, rfl, rfl, rfl, hv, hT⟩ := h
    exact k hv hT))
theorem wd_virtN {ix n q ci nf : Nat} {as rest tl : List Nat} {y : Nat × wq_F} (hf : ev_ft code pc = some (pc, .invokevirtual ix, ln, a, n, ci, w)) (ho : st.drop (n - 1) = (36893488147419103232 + q) :: tl) (hq : sh[q]? = some (ci, nf)) (hqb : q < 1000) (hn0 : 0 < n) (hn : n ≤ st.length) (hd : st.drop n = rest) (hl : 2 * rest.length ≤ 8) (has : (st.take n).reverse = as) (hm : mq d a as sh F (wkN T sh y))
    (k : T y.2 → wq (wq_cf d) code rt (pc + 3) L (rest) sh y.2 nc ns K) : wq (wq_cf d) code rt pc L st sh F nc ns K :=
  wq_virt (q := q) hf ho hq (by omega) hn0 hn hd (Nat.le_trans (ev_cat_le _) hl) has (mq_mono hm (fun r sh' F2 mc ms h => by
    obtain ⟨rfl, rfl, rfl, rfl, rfl, hT⟩ := h
    exact k hT))
theorem wd_statN {ix n : Nat} {as rest : List Nat} {y : Nat × wq_F} (hf : ev_ft code pc = some (pc, .invokestatic ix, ln, a, n, t, w)) (ha : a < 997) (hn : n ≤ st.length) (hd : st.drop n = rest) (hl : 2 * rest.length ≤ 8) (has : (st.take n).reverse = as) (hm : mq d a as sh F (wkN T sh y))
    (k : T y.2 → wq (wq_cf d) code rt (pc + 3) L (rest) sh y.2 nc ns K) : wq (wq_cf d) code rt pc L st sh F nc ns K :=
  wq_stat hf ha hn hd (Nat.le_trans (ev_cat_le _) hl) has (mq_mono hm (fun r sh' F2 mc ms h => by
    obtain ⟨rfl, rfl, rfl, rfl, rfl, hT⟩ := h
    exact k hT))
theorem wd_virtNC {ix n q ci nf : Nat} {as rest tl : List Nat} {y : Nat × wq_F} (hf : ev_ft code pc = some (pc, .invokevirtual ix, ln, a, n, ci, w)) (ho : st.drop (n - 1) = (36893488147419103232 + q) :: tl) (hq : sh[q]? = some (ci, nf)) (hqb : q < 1000) (hn0 : 0 < n) (hn : n ≤ st.length) (hd : st.drop n = rest) (hl : ev_cat rest ≤ 8) (has : (st.take n).reverse = as) (hm : mq d a as sh F (wkN T sh y))
    (k : T y.2 → wq (wq_cf d) code rt (pc + 3) L (rest) sh y.2 nc ns K) : wq (wq_cf d) code rt pc L st sh F nc ns K :=
  wq_virt (q := q) hf ho hq (by omega) hn0 hn hd hl has (mq_mono hm (fun r sh' F2 mc ms h => by
    obtain ⟨rfl, rfl, rfl, rfl, rfl, hT⟩ := h
    exact k hT))
theorem wd_statNC {ix n : Nat} {as rest : List Nat} {y : Nat × wq_F} (hf : ev_ft code pc = some (pc, .invokestatic ix, ln, a, n, t, w)) (ha : a < 997) (hn : n ≤ st.length) (hd : st.drop n = rest) (hl : ev_cat rest ≤ 8) (has : (st.take n).reverse = as) (hm : mq d a as sh F (wkN T sh y))
    (k : T y.2 → wq (wq_cf d) code rt (pc + 3) L (rest) sh y.2 nc ns K) : wq (wq_cf d) code rt pc L st sh F nc ns K :=
  wq_stat hf ha hn hd hl has (mq_mono hm (fun r sh' F2 mc ms h => by
    obtain ⟨rfl, rfl, rfl, rfl, rfl, hT⟩ := h
    exact k hT))
theorem wd_iastore {q n j v : Nat} {G : wq_F} (hf : ev_ft code pc = some (pc, .iastore, ln, a, b, t, w)) (hq : sh[q]? = some (1000, n)) (hqb : q < 18446744073709551616) (hj : j < n) (hn : n < 2147483648) (hv : v < 4294967296) (e : G = wq_up F q j v) (k : wq cf code rt (pc + 1) L st sh G nc ns K) : wq cf code rt pc L (v :: j :: (36893488147419103232 + q) :: st) sh F nc ns K := wq_iastore hf hq hqb hj hn hv (e ▸ k)
theorem wd_bastore {q n j v : Nat} {G : wq_F} (hf : ev_ft code pc = some (pc, .bastore, ln, a, b, t, w)) (hq : sh[q]? = some (1001, n)) (hqb : q < 18446744073709551616) (hj : j < n) (hn : n < 2147483648) (hv : v < 4294967296) (e : G = wq_up F q j (ev_b8 v)) (k : wq cf code rt (pc + 1) L st sh G nc ns K) : wq cf code rt pc L (v :: j :: (36893488147419103232 + q) :: st) sh F nc ns K := wq_bastore hf hq hqb hj hn hv (e ▸ k)
theorem wd_zastore {q n j v : Nat} {G : wq_F} (hf : ev_ft code pc = some (pc, .bastore, ln, a, b, t, w)) (hq : sh[q]? = some (1002, n)) (hqb : q < 18446744073709551616) (hj : j < n) (hn : n < 2147483648) (hv : v < 2) (e : G = wq_up F q j v) (k : wq cf code rt (pc + 1) L st sh G nc ns K) : wq cf code rt pc L (v :: j :: (36893488147419103232 + q) :: st) sh F nc ns K := wq_zastore hf hq hqb hj hn hv (e ▸ k)
theorem wd_lastore {q n j v : Nat} {G : wq_F} (hf : ev_ft code pc = some (pc, .lastore, ln, a, b, t, w)) (hq : sh[q]? = some (1010, n)) (hqb : q < 18446744073709551616) (hj : j < n) (hn : n < 2147483648) (hv : ev_isL v = true) (e : G = wq_up F q j (v - 18446744073709551616)) (k : wq cf code rt (pc + 1) L st sh G nc ns K) : wq cf code rt pc L (v :: j :: (36893488147419103232 + q) :: st) sh F nc ns K := wq_lastore hf hq hqb hj hn hv (e ▸ k)
theorem wmE_put {ix v : Nat} {G : wq_F} (hf : ev_ft code pc = some (pc, .putfield ix, ln, 0, b, t, w)) (hb : b < 160) (hv : ev_fit t v = true) (e : G = wq_up F 0 b v) (k : wq cf code rt (pc + 3) L st wm_sh G nc ns K) : wq cf code rt pc L (v :: 36893488147419103232 :: st) wm_sh F nc ns K := wm_put hf hb hv (e ▸ k)
theorem xmE_put {ix q ci n v : Nat} {G : wq_F} (hf : ev_ft code pc = some (pc, .putfield ix, ln, ci, b, t, w)) (hq : xm_sh[q]? = some (ci, n)) (hqb : q < 1000) (hb : b < n) (hv : ev_fit t v = true) (e : G = wq_up F q b v) (k : wq cf code rt (pc + 3) L st xm_sh G nc ns K) : wq cf code rt pc L (v :: (36893488147419103232 + q) :: st) xm_sh F nc ns K := xm_put hf hq hqb hb hv (e ▸ k)
end WD
