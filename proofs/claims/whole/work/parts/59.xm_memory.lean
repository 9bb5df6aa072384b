/-! ===== 59: the class's memory: its shape, the types of its places (by wip/whole2/law59.py) ===== -/
def xm_sh : List (Nat × Nat) := [(3, 12), (1001, 6000), (4, 16), (1001, 32768), (1000, 3000), (1000, 3000), (1000, 3000), (1000, 1024), (1000, 3000), (1001, 3000), (1001, 2200), (5, 15), (1000, 10000), (1000, 10000), (1000, 10000), (1000, 10000), (1010, 10000), (1000, 50), (1000, 50), (1000, 50), (1000, 50), (1000, 50), (1002, 50), (1000, 1500), (6, 17), (1000, 2001), (1000, 2001), (1000, 2001), (1000, 2001), (1001, 3001), (1001, 3001), (1010, 3001), (1010, 3001), (1000, 3001), (1000, 3001), (1000, 3001), (1000, 4096), (1000, 3001), (7, 12), (1001, 2001), (1000, 2001), (1000, 2001), (1000, 256), (1001, 256), (1010, 256), (1020, 26), (8, 16), (1001, 64), (1010, 64), (1000, 21), (1000, 21), (1000, 21), (1000, 21), (1000, 21), (1000, 21), (1000, 21), (10, 13), (9, 9), (1000, 1320), (11, 12), (1000, 1200), (1000, 1200), (1000, 24), (1000, 24), (1000, 24), (1000, 24), (1000, 1500), (12, 15), (1001, 2001), (1000, 2001), (1000, 2001), (1000, 2001), (1001, 2001), (1000, 2001), (1000, 2001), (13, 19), (14, 16), (1000, 33), (1000, 33), (1000, 4), (1001, 3000), (1, 2), (1001, 5), (1, 2), (1001, 4), (1, 2), (1001, 8), (1, 2), (1001, 8), (1, 2), (1001, 4), (1, 2), (1001, 5), (1, 2), (1001, 6), (1, 2), (1001, 6), (1, 2), (1001, 6), (1, 2), (1001, 8), (1, 2), (1001, 6), (1, 2), (1001, 12), (1, 2), (1001, 12), (1, 2), (1001, 5), (1, 2), (1001, 5), (1, 2), (1001, 6), (1, 2), (1001, 7), (1, 2), (1001, 11), (1, 2), (1001, 6), (1, 2), (1001, 11), (1, 2), (1001, 6), (1, 2), (1001, 11), (1, 2), (1001, 6), (1, 2), (1001, 9), (1, 2), (1001, 4), (1, 2), (1001, 11), (1, 2), (1001, 6), (1, 2), (1001, 8), (1, 2), (1001, 3), (1, 2), (1001, 9), (1, 2), (1001, 4), (1, 2), (1001, 9), (1, 2), (1001, 4), (1, 2), (1001, 8), (1, 2), (1001, 3), (1, 2), (1001, 8), (1, 2), (1001, 3), (1, 2), (1001, 7), (1, 2), (1001, 2), (1, 2), (1001, 9), (1, 2), (1001, 4), (1, 2), (1001, 10), (1, 2), (1001, 5), (1, 2), (1001, 12), (1, 2), (1001, 7), (1, 2), (1001, 6)]
/-- the types of an object's fields: 0 int, 1 byte, 2 boolean, 10 long, 20 some row, 1000000 + k what lies in cell k -/
def xm_f (k : Nat) : List Nat := match k with
  | 0 => [1000001, 1000002, 1000011, 1000024, 1000038, 1000056, 1000067, 1000075, 0, 2, 0, 0]
  | 2 => [1000003, 1000004, 1000005, 1000006, 1000007, 1000008, 0, 1000009, 0, 0, 0, 0, 0, 0, 1000010, 0]
  | 11 => [1000012, 1000013, 1000014, 1000015, 0, 1000016, 0, 1000017, 1000018, 1000019, 1000020, 1000021, 1000022, 1000023, 0]
  | 24 => [1000025, 1000026, 1000027, 1000028, 1000029, 1000030, 1000031, 1000032, 1000033, 1000034, 1000035, 1000036, 1000037, 0, 0, 0, 0]
  | 38 => [1000039, 1000040, 1000041, 0, 0, 20, 0, 20, 20, 0, 1000045, 0]
  | 46 => [20, 20, 0, 1000049, 1000050, 1000051, 1000052, 1000053, 1000054, 1000055, 0, 0, 0, 0, 0, 0]
  | 56 => [1000057, 1000011, 1000002, 1000059, 0, 0, 0, 0, 0, 0, 1000058, 0, 0]
  | 57 => [1000001, 1000002, 0, 0, 0, 0, 0, 0, 10]
  | 59 => [1000011, 1000060, 1000061, 0, 1000062, 1000063, 1000064, 1000065, 0, 1000066, 0, 0]
  | 67 => [1000002, 1000024, 1000038, 1000068, 1000069, 1000070, 0, 1000071, 0, 1000072, 1000073, 0, 1000074, 0, 0]
  | 75 => [1000011, 1000002, 1000024, 1000038, 1000067, 1000076, 20, 0, 10, 0, 0, 0, 0, 0, 0, 0, 0, 0, 10]
  | 76 => [1000002, 1000024, 1000038, 1000067, 1000077, 1000078, 1000079, 0, 1000080, 10, 20, 0, 0, 0, 0, 0]
  | _ => []
theorem xm_sh_eq : al_h11.map (fun x => (x.1, x.2.1)) = xm_sh := by decide +kernel
def xm_ty (k i : Nat) : Option Nat := match xm_sh[k]? with
  | some q => if q.1 < 1000 then (xm_f k)[i]? else if i < q.2 then some (if q.1 = 1010 then 11 else if q.1 = 1020 then 21 else q.1 - 1000) else none
  | none => none
def xm_T (F : wq_F) : Prop := ∀ k i c, xm_ty k i = some c → wt_v c (F k i)
theorem xm_tyF {k ci n f c : Nat} (hq : xm_sh[k]? = some (ci, n)) (hci : ci < 1000) (hf : (xm_f k)[f]? = some c) : xm_ty k f = some c := by
  unfold xm_ty
  rw [hq]
  dsimp only
  rw [if_pos hci]
  exact hf
theorem xm_T.i {F : wq_F} (h : xm_T F) {k ci n : Nat} (f : Nat) (hq : xm_sh[k]? = some (ci, n)) (hci : ci < 1000) (hf : (xm_f k)[f]? = some 0) : F k f < 4294967296 := h k f 0 (xm_tyF hq hci hf)
theorem xm_T.z {F : wq_F} (h : xm_T F) {k ci n : Nat} (f : Nat) (hq : xm_sh[k]? = some (ci, n)) (hci : ci < 1000) (hf : (xm_f k)[f]? = some 2) : F k f < 2 := h k f 2 (xm_tyF hq hci hf)
theorem xm_T.l {F : wq_F} (h : xm_T F) {k ci n : Nat} (f : Nat) (hq : xm_sh[k]? = some (ci, n)) (hci : ci < 1000) (hf : (xm_f k)[f]? = some 10) : ev_isL (F k f) = true := h k f 10 (xm_tyF hq hci hf)
theorem xm_T.r {F : wq_F} (h : xm_T F) {k ci n : Nat} (f j : Nat) (hq : xm_sh[k]? = some (ci, n)) (hci : ci < 1000) (hf : (xm_f k)[f]? = some (1000001 + j)) : F k f = 36893488147419103232 + (j + 1) := by
  have h1 := h k f _ (xm_tyF hq hci hf)
  unfold wt_v at h1
  split at h1 <;> omega
theorem xm_tyA {k n kd i : Nat} (hq : xm_sh[k]? = some (kd, n)) (hkd : 1000 ≤ kd) (hi : i < n) : xm_ty k i = some (if kd = 1010 then 11 else if kd = 1020 then 21 else kd - 1000) := by
  unfold xm_ty
  rw [hq]
  dsimp only
  rw [if_neg (by omega), if_pos hi]
theorem xm_T.ai {F : wq_F} (h : xm_T F) {k n i : Nat} (hq : xm_sh[k]? = some (1000, n)) (hi : i < n) : F k i < 4294967296 := h k i 0 (xm_tyA hq (by decide) hi)
theorem xm_T.ab {F : wq_F} (h : xm_T F) {k n i : Nat} (hq : xm_sh[k]? = some (1001, n)) (hi : i < n) : F k i < 4294967296 := (h k i 1 (xm_tyA hq (by decide) hi)).1
theorem xm_T.ab8 {F : wq_F} (h : xm_T F) {k n i : Nat} (hq : xm_sh[k]? = some (1001, n)) (hi : i < n) : ev_b8 (F k i) = F k i := (h k i 1 (xm_tyA hq (by decide) hi)).2
theorem xm_T.az {F : wq_F} (h : xm_T F) {k n i : Nat} (hq : xm_sh[k]? = some (1002, n)) (hi : i < n) : F k i < 2 := h k i 2 (xm_tyA hq (by decide) hi)
theorem xm_T.al {F : wq_F} (h : xm_T F) {k n i : Nat} (hq : xm_sh[k]? = some (1010, n)) (hi : i < n) : F k i < 18446744073709551616 := h k i 11 (xm_tyA hq (by decide) hi)
theorem xm_T.up {F : wq_F} (h : xm_T F) {k i v : Nat} (hv : ∀ c, xm_ty k i = some c → wt_v c v) : xm_T (wq_up F k i v) := by
  intro k' i' c hc
  unfold wq_up
  by_cases hq : k' = k ∧ i' = i
  · rw [if_pos hq]
    obtain ⟨rfl, rfl⟩ := hq
    exact hv c hc
  · rw [if_neg hq]
    exact h k' i' c hc
theorem xm_T.uf {F : wq_F} (h : xm_T F) {k ci n f c v : Nat} (hq : xm_sh[k]? = some (ci, n)) (hci : ci < 1000) (hf : (xm_f k)[f]? = some c) (hv : wt_v c v) : xm_T (wq_up F k f v) := h.up (fun c' hc => by
  rw [xm_tyF hq hci hf] at hc
  cases hc
  exact hv)
theorem xm_T.ua {F : wq_F} (h : xm_T F) {k kd n i v : Nat} (hq : xm_sh[k]? = some (kd, n)) (hkd : 1000 ≤ kd) (hi : i < n) (hv : wt_v (if kd = 1010 then 11 else if kd = 1020 then 21 else kd - 1000) v) : xm_T (wq_up F k i v) := h.up (fun c' hc => by
  rw [xm_tyA hq hkd hi] at hc
  cases hc
  exact hv)
section XM
variable {d : Nat} {cf : Nat → List Nat → ev_H → Option ev_A} {code : List (List ev_I)} {rt : Option FieldType} {pc a b t w ln nc ns : Nat} {L st : List Nat} {F : wq_F} {K : Option Nat → List (Nat × Nat) → wq_F → Nat → Nat → Prop}
theorem xm_virt {ix n q ci nf : Nat} {as rest tl : List Nat} {r : Option Nat} {F' : wq_F} (hf : ev_ft code pc = some (pc, .invokevirtual ix, ln, a, n, ci, w)) (ho : st.drop (n - 1) = (36893488147419103232 + q) :: tl) (hq : xm_sh[q]? = some (ci, nf)) (hqb : q < 1000) (hn0 : 0 < n) (hn : n ≤ st.length) (hd : st.drop n = rest) (hl : 2 * rest.length ≤ 8) (has : (st.take n).reverse = as) (hm : mq d a as xm_sh F (wq_k r xm_sh F'))
    (k : wq (wq_cf d) code rt (pc + 3) L (r.toList ++ rest) xm_sh F' nc ns K) : wq (wq_cf d) code rt pc L st xm_sh F nc ns K :=
  wq_virt (q := q) hf ho hq (by omega) hn0 hn hd (Nat.le_trans (ev_cat_le _) hl) has (mq_mono hm (fun r' sh' F2 mc ms h => by
    obtain ⟨rfl, rfl, rfl, rfl, rfl⟩ := h
    exact k))
theorem xm_virtI {ix n q ci nf x : Nat} {as rest tl : List Nat} {F' : wq_F} (hf : ev_ft code pc = some (pc, .invokevirtual ix, ln, a, n, ci, w)) (ho : st.drop (n - 1) = (36893488147419103232 + q) :: tl) (hq : xm_sh[q]? = some (ci, nf)) (hqb : q < 1000) (hn0 : 0 < n) (hn : n ≤ st.length) (hd : st.drop n = rest) (hl : 2 * rest.length ≤ 8) (has : (st.take n).reverse = as) (hm : mq d a as xm_sh F (wq_k (some x) xm_sh F'))
    (k : wq (wq_cf d) code rt (pc + 3) L (x :: rest) xm_sh F' nc ns K) : wq (wq_cf d) code rt pc L st xm_sh F nc ns K := xm_virt hf ho hq hqb hn0 hn hd hl has hm k
theorem xm_virtV {ix n q ci nf : Nat} {as rest tl : List Nat} {F' : wq_F} (hf : ev_ft code pc = some (pc, .invokevirtual ix, ln, a, n, ci, w)) (ho : st.drop (n - 1) = (36893488147419103232 + q) :: tl) (hq : xm_sh[q]? = some (ci, nf)) (hqb : q < 1000) (hn0 : 0 < n) (hn : n ≤ st.length) (hd : st.drop n = rest) (hl : 2 * rest.length ≤ 8) (has : (st.take n).reverse = as) (hm : mq d a as xm_sh F (wq_k none xm_sh F'))
    (k : wq (wq_cf d) code rt (pc + 3) L rest xm_sh F' nc ns K) : wq (wq_cf d) code rt pc L st xm_sh F nc ns K := xm_virt hf ho hq hqb hn0 hn hd hl has hm k
theorem xm_statI {ix n x : Nat} {as rest : List Nat} {F' : wq_F} (hf : ev_ft code pc = some (pc, .invokestatic ix, ln, a, n, t, w)) (ha : a < 997) (hn : n ≤ st.length) (hd : st.drop n = rest) (hl : 2 * rest.length ≤ 8) (has : (st.take n).reverse = as) (hm : mq d a as xm_sh F (wq_k (some x) xm_sh F'))
    (k : wq (wq_cf d) code rt (pc + 3) L (x :: rest) xm_sh F' nc ns K) : wq (wq_cf d) code rt pc L st xm_sh F nc ns K :=
  wq_stat hf ha hn hd (Nat.le_trans (ev_cat_le _) hl) has (mq_mono hm (fun r' sh' F2 mc ms h => by
    obtain ⟨rfl, rfl, rfl, rfl, rfl⟩ := h
    exact k))
theorem xm_getI {ix q ci n : Nat} (hf : ev_ft code pc = some (pc, .getfield ix, ln, ci, b, t, w)) (hq : xm_sh[q]? = some (ci, n)) (hqb : q < 1000) (hb : b < n) (k : wq cf code rt (pc + 3) L (F q b :: st) xm_sh F nc ns K) : wq cf code rt pc L ((36893488147419103232 + q) :: st) xm_sh F nc ns K :=
  wq_getfield hf hq (by omega) hb k
theorem xm_getR {ix q ci n v : Nat} (hf : ev_ft code pc = some (pc, .getfield ix, ln, ci, b, t, w)) (hq : xm_sh[q]? = some (ci, n)) (hqb : q < 1000) (hb : b < n) (hv : F q b = v) (k : wq cf code rt (pc + 3) L (v :: st) xm_sh F nc ns K) : wq cf code rt pc L ((36893488147419103232 + q) :: st) xm_sh F nc ns K := by
  subst hv
  exact xm_getI hf hq hqb hb k
theorem xm_put {ix q ci n v : Nat} (hf : ev_ft code pc = some (pc, .putfield ix, ln, ci, b, t, w)) (hq : xm_sh[q]? = some (ci, n)) (hqb : q < 1000) (hb : b < n) (hv : ev_fit t v = true) (k : wq cf code rt (pc + 3) L st xm_sh (wq_up F q b v) nc ns K) : wq cf code rt pc L (v :: (36893488147419103232 + q) :: st) xm_sh F nc ns K :=
  wq_putfield hf hq (by omega) hb hv k
end XM
