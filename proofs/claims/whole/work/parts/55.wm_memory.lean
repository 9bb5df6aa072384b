/-! ===== 55: the reference's memory: its shape, the types of its places; pure answers (by wip/whole2/law55.py) ===== -/
def wm_sh : List (Nat × Nat) := [(0, 160), (1000, 6000), (1001, 40000), (1000, 3000), (1000, 3000), (1000, 3000), (1000, 3000), (1000, 1024), (1001, 4200), (1000, 1502), (1000, 1502), (1010, 1502), (1000, 51), (1000, 51), (1000, 51), (1000, 51), (1002, 51), (1000, 51), (1002, 1530), (1000, 1530), (1000, 14000), (1000, 14000), (1000, 14000), (1000, 14000), (1010, 1501), (1000, 4000), (1000, 4000), (1000, 4000), (1000, 4000), (1000, 1600), (1000, 1600), (1000, 52), (1000, 52), (1000, 64), (1000, 64), (1000, 600), (1000, 600), (1000, 600), (1000, 2002), (1000, 2002), (1000, 2002), (1000, 2002), (1010, 2002), (1000, 2002), (1000, 60060), (1000, 3001), (1010, 3001), (1000, 3001), (1010, 3001), (1000, 3001), (1000, 3001), (1000, 3001), (1000, 4096), (1000, 3001), (1000, 95000), (1010, 95000), (1002, 95000), (1000, 95000), (1000, 26), (1000, 26), (1000, 26), (1010, 26), (1000, 26), (1000, 26), (1000, 26), (1000, 26), (1000, 26), (1000, 26), (1000, 26), (1000, 26), (1000, 26), (1000, 260000), (1010, 260000), (1000, 52000), (1000, 1248), (1000, 1248), (1000, 1248), (1000, 1248), (1000, 1248), (1000, 1248), (1000, 1248), (1000, 1248), (1000, 1248), (1000, 1248), (1000, 1248), (1000, 1248), (1000, 1248), (1000, 62400), (1000, 128), (1010, 128), (1000, 128), (1010, 128), (1000, 128), (1010, 128), (1001, 3000), (1000, 4004), (1002, 2002), (1002, 26), (1000, 2004), (1000, 2002), (1000, 3001)]
/-- the types of the fields: 0 int, 2 boolean, 10 long, 1000000 + k the row in cell k -/
def wm_f : List Nat := [0, 1000001, 0, 2, 0, 0, 0, 1000002, 0, 1000003, 1000004, 1000005, 1000006, 1000007, 0, 0, 0, 0, 0, 1000008, 0, 1000009, 1000010, 1000011, 0, 0, 1000012, 1000013, 1000014, 1000015, 1000016, 1000017, 1000018, 1000019, 0, 1000020, 1000021, 1000022, 1000023, 1000024, 0, 0, 1000025, 1000026, 1000027, 1000028, 0, 0, 1000029, 1000030, 0, 1000031, 1000032, 0, 1000033, 1000034, 0, 1000035, 1000036, 1000037, 0, 0, 0, 0, 0, 0, 0, 0, 10, 0, 1000038, 1000039, 1000040, 1000041, 1000042, 1000043, 1000044, 0, 10, 1000045, 1000046, 1000047, 1000048, 1000049, 1000050, 1000051, 1000052, 1000053, 0, 0, 0, 10, 1000054, 1000055, 1000056, 1000057, 0, 1000058, 1000059, 1000060, 1000061, 1000062, 1000063, 1000064, 1000065, 1000066, 1000067, 1000068, 1000069, 1000070, 0, 0, 1000071, 1000072, 1000073, 1000074, 1000075, 1000076, 1000077, 1000078, 1000079, 1000080, 1000081, 1000082, 1000083, 1000084, 1000085, 1000086, 1000087, 0, 0, 0, 0, 0, 10, 1000088, 1000089, 0, 1000090, 1000091, 0, 0, 10, 0, 0, 10, 1000092, 1000093, 0, 1000094, 0, 1000095, 0, 0, 1000096, 1000097, 1000098, 0, 1000099, 1000100]
theorem wm_sh_eq : al_h19.map (fun x => (x.1, x.2.1)) = wm_sh := by decide +kernel
def wt_v (c v : Nat) : Prop := match c with
  | 0 => v < 4294967296
  | 1 => v < 4294967296 ∧ ev_b8 v = v
  | 2 => v < 2
  | 3 => v < 65536
  | 10 => ev_isL v = true
  | 11 => v < 18446744073709551616
  | 20 => (ev_isR v || ev_isN v) = true
  | 21 => v = 0 ∨ ev_isR v = true
  | c => v = 36893488147419103232 + (c - 1000000)
def wm_ty (k i : Nat) : Option Nat := match k with
  | 0 => wm_f[i]?
  | k + 1 => match wm_sh[k + 1]? with
    | some q => if i < q.2 then some (if q.1 = 1010 then 11 else q.1 - 1000) else none
    | none => none
def wm_T (F : wq_F) : Prop := ∀ k i c, wm_ty k i = some c → wt_v c (F k i)
theorem wm_T.i {F : wq_F} (h : wm_T F) (f : Nat) (hf : wm_f[f]? = some 0) : F 0 f < 4294967296 := h 0 f 0 hf
theorem wm_T.z {F : wq_F} (h : wm_T F) (f : Nat) (hf : wm_f[f]? = some 2) : F 0 f < 2 := h 0 f 2 hf
theorem wm_T.l {F : wq_F} (h : wm_T F) (f : Nat) (hf : wm_f[f]? = some 10) : ev_isL (F 0 f) = true := h 0 f 10 hf
theorem wm_T.r {F : wq_F} (h : wm_T F) (f k : Nat) (hf : wm_f[f]? = some (1000001 + k)) : F 0 f = 36893488147419103232 + (k + 1) := by
  have h1 := h 0 f _ hf
  unfold wt_v at h1
  split at h1 <;> omega
theorem wm_tyA {k n kd i : Nat} (hq : wm_sh[k]? = some (kd, n)) (hkd : 1000 ≤ kd) (hi : i < n) : wm_ty k i = some (if kd = 1010 then 11 else kd - 1000) := by
  cases k with
  | zero =>
    have e : wm_sh[0]? = some (0, 160) := rfl
    rw [e] at hq
    cases hq
    omega
  | succ k =>
    simp only [wm_ty, hq, if_pos hi]
theorem wm_T.ai {F : wq_F} (h : wm_T F) {k n i : Nat} (hq : wm_sh[k]? = some (1000, n)) (hi : i < n) : F k i < 4294967296 := h k i 0 (wm_tyA hq (by decide) hi)
theorem wm_T.ab {F : wq_F} (h : wm_T F) {k n i : Nat} (hq : wm_sh[k]? = some (1001, n)) (hi : i < n) : F k i < 4294967296 := (h k i 1 (wm_tyA hq (by decide) hi)).1
theorem wm_T.az {F : wq_F} (h : wm_T F) {k n i : Nat} (hq : wm_sh[k]? = some (1002, n)) (hi : i < n) : F k i < 2 := h k i 2 (wm_tyA hq (by decide) hi)
theorem wm_T.al {F : wq_F} (h : wm_T F) {k n i : Nat} (hq : wm_sh[k]? = some (1010, n)) (hi : i < n) : F k i < 18446744073709551616 := h k i 11 (wm_tyA hq (by decide) hi)
theorem wm_T.up {F : wq_F} (h : wm_T F) {k i v : Nat} (hv : ∀ c, wm_ty k i = some c → wt_v c v) : wm_T (wq_up F k i v) := by
  intro k' i' c hc
  unfold wq_up
  by_cases hq : k' = k ∧ i' = i
  · rw [if_pos hq]
    obtain ⟨rfl, rfl⟩ := hq
    exact hv c hc
  · rw [if_neg hq]
    exact h k' i' c hc
theorem wm_T.uf {F : wq_F} (h : wm_T F) {f c v : Nat} (hf : wm_f[f]? = some c) (hv : wt_v c v) : wm_T (wq_up F 0 f v) := h.up (fun c' hc => by
  have hc : wm_f[f]? = some c' := hc
  rw [hf] at hc
  cases hc
  exact hv)
theorem wm_T.ua {F : wq_F} (h : wm_T F) {k kd n i v : Nat} (hq : wm_sh[k]? = some (kd, n)) (hkd : 1000 ≤ kd) (hi : i < n) (hv : wt_v (if kd = 1010 then 11 else kd - 1000) v) : wm_T (wq_up F k i v) := h.up (fun c' hc => by
  rw [wm_tyA hq hkd hi] at hc
  cases hc
  exact hv)
/-- it answers r and leaves F, nothing made -/
def wq_k (r : Option Nat) (sh : List (Nat × Nat)) (F : wq_F) : Option Nat → List (Nat × Nat) → wq_F → Nat → Nat → Prop := fun r' sh' F' mc ms => r' = r ∧ sh' = sh ∧ F' = F ∧ mc = 0 ∧ ms = 0
theorem wq_k0 {r : Option Nat} {sh : List (Nat × Nat)} {F : wq_F} : wq_k r sh F r sh F 0 0 := ⟨rfl, rfl, rfl, rfl, rfl⟩
section WM
variable {d : Nat} {cf : Nat → List Nat → ev_H → Option ev_A} {code : List (List ev_I)} {rt : Option FieldType} {pc a b t w ln nc ns : Nat} {L st : List Nat} {F : wq_F} {K : Option Nat → List (Nat × Nat) → wq_F → Nat → Nat → Prop}
/-- a call whose answer is known -/
theorem wm_virt {ix n : Nat} {as rest tl : List Nat} {r : Option Nat} {F' : wq_F} (hf : ev_ft code pc = some (pc, .invokevirtual ix, ln, a, n, 0, w)) (ho : st.drop (n - 1) = 36893488147419103232 :: tl) (hn0 : 0 < n) (hn : n ≤ st.length) (hd : st.drop n = rest) (hcat : ev_cat rest ≤ 8) (has : (st.take n).reverse = as) (hm : mq d a as wm_sh F (wq_k r wm_sh F'))
    (k : wq (wq_cf d) code rt (pc + 3) L (r.toList ++ rest) wm_sh F' nc ns K) : wq (wq_cf d) code rt pc L st wm_sh F nc ns K :=
  wq_virt (q := 0) hf ho (show wm_sh[0]? = some (0, 160) from rfl) (by decide) hn0 hn hd hcat has (mq_mono hm (fun r' sh' F2 mc ms h => by
    obtain ⟨rfl, rfl, rfl, rfl, rfl⟩ := h
    exact k))
theorem wm_stat {ix n : Nat} {as rest : List Nat} {r : Option Nat} {F' : wq_F} (hf : ev_ft code pc = some (pc, .invokestatic ix, ln, a, n, t, w)) (ha : a < 997) (hn : n ≤ st.length) (hd : st.drop n = rest) (hcat : ev_cat rest ≤ 8) (has : (st.take n).reverse = as) (hm : mq d a as wm_sh F (wq_k r wm_sh F'))
    (k : wq (wq_cf d) code rt (pc + 3) L (r.toList ++ rest) wm_sh F' nc ns K) : wq (wq_cf d) code rt pc L st wm_sh F nc ns K :=
  wq_stat hf ha hn hd hcat has (mq_mono hm (fun r' sh' F2 mc ms h => by
    obtain ⟨rfl, rfl, rfl, rfl, rfl⟩ := h
    exact k))
/-- the object's field that holds an int; a truth; a long; a row -/
theorem wm_getI {ix : Nat} (hf : ev_ft code pc = some (pc, .getfield ix, ln, 0, b, t, w)) (hb : b < 160) (k : wq cf code rt (pc + 3) L (F 0 b :: st) wm_sh F nc ns K) : wq cf code rt pc L (36893488147419103232 :: st) wm_sh F nc ns K :=
  wq_getfield (q := 0) hf (show wm_sh[0]? = some (0, 160) from rfl) (by decide) hb k
theorem wm_getR {ix v : Nat} (hf : ev_ft code pc = some (pc, .getfield ix, ln, 0, b, t, w)) (hb : b < 160) (hv : F 0 b = v) (k : wq cf code rt (pc + 3) L (v :: st) wm_sh F nc ns K) : wq cf code rt pc L (36893488147419103232 :: st) wm_sh F nc ns K := by
  subst hv
  exact wm_getI hf hb k
theorem wm_put {ix v : Nat} (hf : ev_ft code pc = some (pc, .putfield ix, ln, 0, b, t, w)) (hb : b < 160) (hv : ev_fit t v = true) (k : wq cf code rt (pc + 3) L st wm_sh (wq_up F 0 b v) nc ns K) : wq cf code rt pc L (v :: 36893488147419103232 :: st) wm_sh F nc ns K :=
  wq_putfield (q := 0) hf (show wm_sh[0]? = some (0, 160) from rfl) (by decide) hb hv k
end WM
