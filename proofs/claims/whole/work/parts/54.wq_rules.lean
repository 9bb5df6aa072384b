/-! ===== 54: rules that walk through a method on the evaluator; the heap's contents as functions (by wip/whole2/law54.py) ===== -/
/-- what each cell holds at each place -/
abbrev wq_F : Type := Nat → Nat → Nat
/-- the heap: kinds and lengths of its cells, and their packed contents -/
def wq_mk : List (Nat × Nat) → Nat → (Nat → Nat) → ev_H
  | [], _, _ => []
  | q :: l, k, B => (q.1, q.2, B k) :: wq_mk l (k + 1) B
def wq_is (B : Nat → Nat) (F : wq_F) : Prop := ∀ k i, ev_at (B k) i = F k i
/-- a place of a cell written -/
def wq_up (F : wq_F) (k i v : Nat) : wq_F := fun k' i' => if k' = k ∧ i' = i then v else F k' i'
theorem wq_up_same (F : wq_F) (k i v : Nat) : wq_up F k i v k i = v := if_pos ⟨rfl, rfl⟩
theorem wq_up_ne {F : wq_F} {k i v k' i' : Nat} (h : ¬ (k' = k ∧ i' = i)) : wq_up F k i v k' i' = F k' i' := if_neg h
theorem wq_up_cell {F : wq_F} {k i v k' i' : Nat} (h : k' ≠ k) : wq_up F k i v k' i' = F k' i' := if_neg (fun q => h q.1)
theorem wq_up_at {F : wq_F} {k i v i' : Nat} (h : i' ≠ i) : wq_up F k i v k i' = F k i' := if_neg (fun q => h q.2)
theorem wq_mk_get : ∀ (sh : List (Nat × Nat)) (n k : Nat) (B : Nat → Nat), (wq_mk sh n B)[k]? = (sh[k]?).map (fun q => (q.1, q.2, B (n + k)))
  | [], _, _, _ => by simp [wq_mk]
  | q :: l, n, 0, B => by simp [wq_mk]
  | q :: l, n, k + 1, B => by
    have := wq_mk_get l (n + 1) k B
    simp only [wq_mk, List.getElem?_cons_succ, this]
    rw [show n + 1 + k = n + (k + 1) by omega]
theorem wq_mk_len : ∀ (sh : List (Nat × Nat)) (n : Nat) (B : Nat → Nat), (wq_mk sh n B).length = sh.length
  | [], _, _ => rfl
  | q :: l, n, B => by simp [wq_mk, wq_mk_len l (n + 1) B]
/-- one cell's packed contents changed -/
def wq_ch (B : Nat → Nat) (k v : Nat) : Nat → Nat := fun j => if j = k then v else B j
theorem wq_mk_set {sh : List (Nat × Nat)} {k a n v : Nat} {B : Nat → Nat} (h : sh[k]? = some (a, n)) : (wq_mk sh 0 B).set k (a, n, v) = wq_mk sh 0 (wq_ch B k v) := by
  apply List.ext_getElem?
  intro j
  rw [List.getElem?_set, wq_mk_get, wq_mk_get, wq_mk_len]
  by_cases hj : k = j
  · subst hj
    rw [if_pos rfl, if_pos (List.getElem?_eq_some_iff.mp h).1, h]
    simp [wq_ch]
  · rw [if_neg hj]
    congr 1
    funext q
    simp only [Nat.zero_add, wq_ch, if_neg (fun e : j = k => hj e.symm)]
theorem wq_is_up {B : Nat → Nat} {F : wq_F} {k i v : Nat} (h : wq_is B F) (hv : v < 4722366482869645213696) : wq_is (wq_ch B k (ev_up (B k) i v)) (wq_up F k i v) := by
  intro k' i'
  unfold wq_ch wq_up
  by_cases hk : k' = k
  · subst hk
    rw [if_pos rfl, ev_at_up hv, h]
    by_cases hi : i' = i
    · rw [if_pos hi, if_pos ⟨rfl, hi⟩]
    · rw [if_neg hi, if_neg (fun q => hi q.2)]
  · rw [if_neg hk, if_neg (fun q => hk q.1), h]
theorem wq_o {sh : List (Nat × Nat)} {k a n : Nat} {B : Nat → Nat} (h : sh[k]? = some (a, n)) (hk : k < 18446744073709551616) : ev_o (wq_mk sh 0 B) (36893488147419103232 + k) = some (a, n, B k) := by
  unfold ev_o
  have h1 : ev_isR (36893488147419103232 + k) = true := by
    unfold ev_isR
    rw [Nat.ble_eq_true_of_le (Nat.le_add_right _ _), Nat.blt_eq.mpr (by omega)]
    rfl
  rw [h1, cond_true, Nat.add_sub_cancel_left, wq_mk_get, h]
  simp
/-- from here on the method comes to its end, and then K -/
def wq (cf : Nat → List Nat → ev_H → Option ev_A) (code : List (List ev_I)) (rt : Option FieldType) (pc : Nat) (L st : List Nat) (sh : List (Nat × Nat)) (F : wq_F) (nc ns : Nat) (K : Option Nat → List (Nat × Nat) → wq_F → Nat → Nat → Prop) : Prop :=
  ∀ B, wq_is B F → ∃ (N : Nat) (r : Option Nat) (B' : Nat → Nat) (sh' : List (Nat × Nat)) (F' : wq_F) (mc ms : Nat), ev_run 0 al_dfl cf code rt N pc L st (wq_mk sh 0 B) nc ns = some (r, wq_mk sh' 0 B', mc, ms) ∧ wq_is B' F' ∧ K r sh' F' mc ms
/-- a method's call comes to its end, and then K -/
def mq (d mid : Nat) (as : List Nat) (sh : List (Nat × Nat)) (F : wq_F) (K : Option Nat → List (Nat × Nat) → wq_F → Nat → Nat → Prop) : Prop :=
  ∀ B, wq_is B F → ∃ (r : Option Nat) (B' : Nat → Nat) (sh' : List (Nat × Nat)) (F' : wq_F) (mc ms : Nat), ev_big 0 al_dfl al_mt d mid as (wq_mk sh 0 B) = some (r, wq_mk sh' 0 B', mc, ms) ∧ wq_is B' F' ∧ K r sh' F' mc ms
noncomputable abbrev wq_cf (d : Nat) : Nat → List Nat → ev_H → Option ev_A := ev_big 0 al_dfl al_mt d
theorem mq_le {d d' mid : Nat} {as : List Nat} {sh : List (Nat × Nat)} {F : wq_F} {K : Option Nat → List (Nat × Nat) → wq_F → Nat → Nat → Prop} (h : mq d mid as sh F K) (hd : d ≤ d') : mq d' mid as sh F K := by
  intro B hB
  obtain ⟨r, B', sh', F', mc, ms, h1, h2, h3⟩ := h B hB
  exact ⟨r, B', sh', F', mc, ms, ev_big_le h1 hd, h2, h3⟩
theorem mq_mono {d mid : Nat} {as : List Nat} {sh : List (Nat × Nat)} {F : wq_F} {K K' : Option Nat → List (Nat × Nat) → wq_F → Nat → Nat → Prop} (h : mq d mid as sh F K) (hK : ∀ r sh F mc ms, K r sh F mc ms → K' r sh F mc ms) : mq d mid as sh F K' := by
  intro B hB
  obtain ⟨r, B', sh', F', mc, ms, h1, h2, h3⟩ := h B hB
  exact ⟨r, B', sh', F', mc, ms, h1, h2, hK _ _ _ _ _ h3⟩
theorem mq_of {d mid : Nat} {as : List Nat} {sh : List (Nat × Nat)} {F : wq_F} {K : Option Nat → List (Nat × Nat) → wq_F → Nat → Nat → Prop} {y : MethodName} {bytes : ByteArray} {maxL : Nat} {rt : Option FieldType} {code : List (List ev_I)} {L : List Nat} (hm : al_mt[mid]? = some (y, bytes, maxL, rt, code)) (hl : (ev_ent as).length ≤ maxL) (hL : ev_ent as ++ List.replicate (maxL - (ev_ent as).length) 73786976294838206464 = L) (h : wq (wq_cf d) code rt 0 L [] sh F 0 0 K) : mq (d + 1) mid as sh F K := by
  intro B hB
  subst hL
  obtain ⟨N, r, B', sh', F', mc, ms, h1, h2, h3⟩ := h B hB
  exact ⟨r, B', sh', F', mc, ms, ev_big_of hm hl h1, h2, h3⟩
section WQ
variable {d : Nat} {cf : Nat → List Nat → ev_H → Option ev_A} {code : List (List ev_I)} {rt : Option FieldType} {pc a b t w ln nc ns : Nat} {L st : List Nat} {sh : List (Nat × Nat)} {F : wq_F} {K : Option Nat → List (Nat × Nat) → wq_F → Nat → Nat → Prop}
theorem wq_one {x : ev_I} {pc' nc' ns' : Nat} {L' st' : List Nat} {sh' : List (Nat × Nat)} {F' : wq_F} (hf : ev_ft code pc = some x) (he : ev_isRet x.2.1 = false) (h : ∀ B, wq_is B F → ∃ B', wq_is B' F' ∧ ev_stepX 0 al_dfl cf x.2.1 x.2.2.2.1 x.2.2.2.2.1 x.2.2.2.2.2.1 pc L st (wq_mk sh 0 B) nc ns = some ((pc', L', st'), wq_mk sh' 0 B', nc', ns')) (hnc : nc ≤ nc') (hns : ns ≤ ns') (k : wq cf code rt pc' L' st' sh' F' nc' ns' K) : wq cf code rt pc L st sh F nc ns K := by
  intro B hB
  obtain ⟨B1, h1, h2⟩ := h B hB
  obtain ⟨N, r, B', sh2, F2, mc, ms, h3, h4, h5⟩ := k B1 h1
  have hg := ev_goes.one (nr := 0) (dfl := al_dfl) (cf := cf) (rt := rt) hf (ev_end_no he rt st) h2 (by rw [Nat.ble_eq_true_of_le hnc, Nat.ble_eq_true_of_le hns]; rfl)
  exact ⟨N + 1, r, B', sh2, F2, mc, ms, by rw [show ev_run 0 al_dfl cf code rt (N + 1) pc L st (wq_mk sh 0 B) nc ns = _ from hg N]; exact h3, h4, h5⟩
theorem wq_fr {x : ev_I} {pc' : Nat} {L' st' : List Nat} (hf : ev_ft code pc = some x) (he : ev_isRet x.2.1 = false) (hp : ev_pre x.2.1 x.2.2.2.1 x.2.2.2.2.2.1 = false) (h : ∀ h : ev_H, ev_step 0 al_dfl cf x.2.1 x.2.2.2.1 x.2.2.2.2.1 x.2.2.2.2.2.1 pc L st h nc ns = some ((pc', L', st'), h, nc, ns)) (k : wq cf code rt pc' L' st' sh F nc ns K) : wq cf code rt pc L st sh F nc ns K :=
  wq_one hf he (fun B hB => ⟨B, hB, ev_stepX_of hp (h _)⟩) (Nat.le_refl _) (Nat.le_refl _) k
theorem wq_I {x : Nat} (h : x < 4294967296) : ev_isI x = true := Nat.blt_eq.mpr h
theorem wq_notL {x : Nat} (h : x < 4294967296) : ev_isL x = false := by
  unfold ev_isL
  cases h1 : Nat.ble 18446744073709551616 x
  · rfl
  · have := Nat.le_of_ble_eq_true h1
    omega
theorem wq_L {x : Nat} (h : 18446744073709551616 ≤ x) (h' : x < 36893488147419103232) : ev_isL x = true := by
  unfold ev_isL
  rw [Nat.ble_eq_true_of_le h, Nat.blt_eq.mpr h']
  rfl
theorem wq_set1 {n x : Nat} (hp : n = 0 ∨ ∃ y, L[n - 1]? = some y ∧ ev_isL y = false) : ev_set1 L n x = L.set n x := by
  cases n with
  | zero => rfl
  | succ j =>
    rcases hp with h | ⟨y, h1, h2⟩
    · cases h
    · have h1 : L[j]? = some y := h1
      simp only [ev_set1, h1, h2, cond_false]
theorem wq_iload {x n : Nat} (hf : ev_ft code pc = some (pc, .iload n, ln, a, b, t, w)) (hL : L[n]? = some x) (hx : x < 4294967296) (k : wq cf code rt (pc + 2) L (x :: st) sh F nc ns K) : wq cf code rt pc L st sh F nc ns K := by
  exact wq_fr hf rfl rfl (fun h => by simp [ev_step, ev_stH, ev_stA, ev_ldI, hL, wq_I hx]) k
theorem wq_iload_n {x : Nat} {m : Fin 4} (hf : ev_ft code pc = some (pc, .iload_n m, ln, a, b, t, w)) (hL : L[m.val]? = some x) (hx : x < 4294967296) (k : wq cf code rt (pc + 1) L (x :: st) sh F nc ns K) : wq cf code rt pc L st sh F nc ns K := by
  exact wq_fr hf rfl rfl (fun h => by simp [ev_step, ev_stH, ev_stA, ev_ldI, hL, wq_I hx]) k
theorem wq_lload {x n : Nat} (hf : ev_ft code pc = some (pc, .lload n, ln, a, b, t, w)) (hL : L[n]? = some x) (hx : ev_isL x = true) (k : wq cf code rt (pc + 2) L (x :: st) sh F nc ns K) : wq cf code rt pc L st sh F nc ns K := by
  exact wq_fr hf rfl rfl (fun h => by simp [ev_step, ev_stH, ev_stA, ev_ldL, hL, hx]) k
theorem wq_lload_n {x : Nat} {m : Fin 4} (hf : ev_ft code pc = some (pc, .lload_n m, ln, a, b, t, w)) (hL : L[m.val]? = some x) (hx : ev_isL x = true) (k : wq cf code rt (pc + 1) L (x :: st) sh F nc ns K) : wq cf code rt pc L st sh F nc ns K := by
  exact wq_fr hf rfl rfl (fun h => by simp [ev_step, ev_stH, ev_stA, ev_ldL, hL, hx]) k
theorem wq_aload {x n : Nat} (hf : ev_ft code pc = some (pc, .aload n, ln, a, b, t, w)) (hL : L[n]? = some x) (hx : (ev_isR x || ev_isN x) = true) (k : wq cf code rt (pc + 2) L (x :: st) sh F nc ns K) : wq cf code rt pc L st sh F nc ns K := by
  exact wq_fr hf rfl rfl (fun h => by simp only [ev_step, ev_stH, ev_stA, ev_ldR, hL, hx, cond_true]) k
theorem wq_aload_n {x : Nat} {m : Fin 4} (hf : ev_ft code pc = some (pc, .aload_n m, ln, a, b, t, w)) (hL : L[m.val]? = some x) (hx : (ev_isR x || ev_isN x) = true) (k : wq cf code rt (pc + 1) L (x :: st) sh F nc ns K) : wq cf code rt pc L st sh F nc ns K := by
  exact wq_fr hf rfl rfl (fun h => by simp only [ev_step, ev_stH, ev_stA, ev_ldR, hL, hx, cond_true]) k
theorem wq_istore {x n : Nat} {L' : List Nat} (hf : ev_ft code pc = some (pc, .istore n, ln, a, b, t, w)) (hx : x < 4294967296) (hn : n < L.length) (hp : n = 0 ∨ ∃ y, L[n - 1]? = some y ∧ ev_isL y = false) (hL : L.set n x = L') (k : wq cf code rt (pc + 2) L' st sh F nc ns K) : wq cf code rt pc L (x :: st) sh F nc ns K := by
  subst hL
  exact wq_fr hf rfl rfl (fun h => by simp [ev_step, ev_stH, ev_stA, ev_stI, wq_I hx, Nat.blt_eq.mpr hn, wq_set1 hp]) k
theorem wq_istore_n {x : Nat} {L' : List Nat} {m : Fin 4} (hf : ev_ft code pc = some (pc, .istore_n m, ln, a, b, t, w)) (hx : x < 4294967296) (hn : m.val < L.length) (hp : m.val = 0 ∨ ∃ y, L[m.val - 1]? = some y ∧ ev_isL y = false) (hL : L.set m.val x = L') (k : wq cf code rt (pc + 1) L' st sh F nc ns K) : wq cf code rt pc L (x :: st) sh F nc ns K := by
  subst hL
  exact wq_fr hf rfl rfl (fun h => by simp [ev_step, ev_stH, ev_stA, ev_stI, wq_I hx, Nat.blt_eq.mpr hn, wq_set1 hp]) k
theorem wq_astore {x n : Nat} {L' : List Nat} (hf : ev_ft code pc = some (pc, .astore n, ln, a, b, t, w)) (hx : (ev_isR x || ev_isN x) = true) (hn : n < L.length) (hp : n = 0 ∨ ∃ y, L[n - 1]? = some y ∧ ev_isL y = false) (hL : L.set n x = L') (k : wq cf code rt (pc + 2) L' st sh F nc ns K) : wq cf code rt pc L (x :: st) sh F nc ns K := by
  subst hL
  exact wq_fr hf rfl rfl (fun h => by simp only [ev_step, ev_stH, ev_stA, ev_stR, hx, Nat.blt_eq.mpr hn, wq_set1 hp, Bool.and_self, cond_true]) k
theorem wq_astore_n {x : Nat} {L' : List Nat} {m : Fin 4} (hf : ev_ft code pc = some (pc, .astore_n m, ln, a, b, t, w)) (hx : (ev_isR x || ev_isN x) = true) (hn : m.val < L.length) (hp : m.val = 0 ∨ ∃ y, L[m.val - 1]? = some y ∧ ev_isL y = false) (hL : L.set m.val x = L') (k : wq cf code rt (pc + 1) L' st sh F nc ns K) : wq cf code rt pc L (x :: st) sh F nc ns K := by
  subst hL
  exact wq_fr hf rfl rfl (fun h => by simp only [ev_step, ev_stH, ev_stA, ev_stR, hx, Nat.blt_eq.mpr hn, wq_set1 hp, Bool.and_self, cond_true]) k
theorem wq_lstore {x n : Nat} {L' : List Nat} (hf : ev_ft code pc = some (pc, .lstore n, ln, a, b, t, w)) (hx : ev_isL x = true) (hn : n + 1 < L.length) (hp : n = 0 ∨ ∃ y, L[n - 1]? = some y ∧ ev_isL y = false) (hL : (L.set n x).set (n + 1) 73786976294838206464 = L') (k : wq cf code rt (pc + 2) L' st sh F nc ns K) : wq cf code rt pc L (x :: st) sh F nc ns K := by
  subst hL
  exact wq_fr hf rfl rfl (fun h => by simp [ev_step, ev_stH, ev_stA, ev_stL, hx, Nat.blt_eq.mpr hn, ev_set2, wq_set1 hp]) k
theorem wq_lstore_n {x : Nat} {L' : List Nat} {m : Fin 4} (hf : ev_ft code pc = some (pc, .lstore_n m, ln, a, b, t, w)) (hx : ev_isL x = true) (hn : m.val + 1 < L.length) (hp : m.val = 0 ∨ ∃ y, L[m.val - 1]? = some y ∧ ev_isL y = false) (hL : (L.set m.val x).set (m.val + 1) 73786976294838206464 = L') (k : wq cf code rt (pc + 1) L' st sh F nc ns K) : wq cf code rt pc L (x :: st) sh F nc ns K := by
  subst hL
  exact wq_fr hf rfl rfl (fun h => by simp [ev_step, ev_stH, ev_stA, ev_stL, hx, Nat.blt_eq.mpr hn, ev_set2, wq_set1 hp]) k
theorem wq_iconst {n : Int} (hf : ev_ft code pc = some (pc, .iconst n, ln, a, b, t, w)) (hn : (decide (Int32.ofInt n = nI a) && ev_isI a) = true) (k : wq cf code rt (pc + 1) L (a :: st) sh F nc ns K) : wq cf code rt pc L st sh F nc ns K := by
  exact wq_fr hf rfl rfl (fun h => by simp only [ev_step, ev_stH, ev_stA, hn, cond_true]) k
theorem wq_bipush {n : Int} (hf : ev_ft code pc = some (pc, .bipush n, ln, a, b, t, w)) (hn : (decide ((Int8.ofInt n).toInt32 = nI a) && ev_isI a) = true) (k : wq cf code rt (pc + 2) L (a :: st) sh F nc ns K) : wq cf code rt pc L st sh F nc ns K := by
  exact wq_fr hf rfl rfl (fun h => by simp only [ev_step, ev_stH, ev_stA, hn, cond_true]) k
theorem wq_sipush {n : Int} (hf : ev_ft code pc = some (pc, .sipush n, ln, a, b, t, w)) (hn : (decide ((Int16.ofInt n).toInt32 = nI a) && ev_isI a) = true) (k : wq cf code rt (pc + 3) L (a :: st) sh F nc ns K) : wq cf code rt pc L st sh F nc ns K := by
  exact wq_fr hf rfl rfl (fun h => by simp only [ev_step, ev_stH, ev_stA, hn, cond_true]) k
theorem wq_lconst {n : Fin 2} (hf : ev_ft code pc = some (pc, .lconst n, ln, a, b, t, w)) (k : wq cf code rt (pc + 1) L ((18446744073709551616 + n.val) :: st) sh F nc ns K) : wq cf code rt pc L st sh F nc ns K := by
  exact wq_fr hf rfl rfl (fun h => rfl) k
theorem wq_iadd {x y : Nat} (hf : ev_ft code pc = some (pc, .iadd, ln, a, b, t, w)) (hx : x < 4294967296) (hy : y < 4294967296) (k : wq cf code rt (pc + 1) L (ev_oAdd x y :: st) sh F nc ns K) : wq cf code rt pc L (y :: x :: st) sh F nc ns K := by
  exact wq_fr hf rfl rfl (fun h => by simp [ev_step, ev_stH, ev_stA, ev_binI, wq_I hx, wq_I hy]) k
theorem wq_isub {x y : Nat} (hf : ev_ft code pc = some (pc, .isub, ln, a, b, t, w)) (hx : x < 4294967296) (hy : y < 4294967296) (k : wq cf code rt (pc + 1) L (ev_oSub x y :: st) sh F nc ns K) : wq cf code rt pc L (y :: x :: st) sh F nc ns K := by
  exact wq_fr hf rfl rfl (fun h => by simp [ev_step, ev_stH, ev_stA, ev_binI, wq_I hx, wq_I hy]) k
theorem wq_imul {x y : Nat} (hf : ev_ft code pc = some (pc, .imul, ln, a, b, t, w)) (hx : x < 4294967296) (hy : y < 4294967296) (k : wq cf code rt (pc + 1) L (ev_oMul x y :: st) sh F nc ns K) : wq cf code rt pc L (y :: x :: st) sh F nc ns K := by
  exact wq_fr hf rfl rfl (fun h => by simp [ev_step, ev_stH, ev_stA, ev_binI, wq_I hx, wq_I hy]) k
theorem wq_iand {x y : Nat} (hf : ev_ft code pc = some (pc, .iand, ln, a, b, t, w)) (hx : x < 4294967296) (hy : y < 4294967296) (k : wq cf code rt (pc + 1) L (ev_oAnd x y :: st) sh F nc ns K) : wq cf code rt pc L (y :: x :: st) sh F nc ns K := by
  exact wq_fr hf rfl rfl (fun h => by simp [ev_step, ev_stH, ev_stA, ev_binI, wq_I hx, wq_I hy]) k
theorem wq_ior {x y : Nat} (hf : ev_ft code pc = some (pc, .ior, ln, a, b, t, w)) (hx : x < 4294967296) (hy : y < 4294967296) (k : wq cf code rt (pc + 1) L (ev_oOr x y :: st) sh F nc ns K) : wq cf code rt pc L (y :: x :: st) sh F nc ns K := by
  exact wq_fr hf rfl rfl (fun h => by simp [ev_step, ev_stH, ev_stA, ev_binI, wq_I hx, wq_I hy]) k
theorem wq_ixor {x y : Nat} (hf : ev_ft code pc = some (pc, .ixor, ln, a, b, t, w)) (hx : x < 4294967296) (hy : y < 4294967296) (k : wq cf code rt (pc + 1) L (ev_oXor x y :: st) sh F nc ns K) : wq cf code rt pc L (y :: x :: st) sh F nc ns K := by
  exact wq_fr hf rfl rfl (fun h => by simp [ev_step, ev_stH, ev_stA, ev_binI, wq_I hx, wq_I hy]) k
theorem wq_iushr {x y : Nat} (hf : ev_ft code pc = some (pc, .iushr, ln, a, b, t, w)) (hx : x < 4294967296) (hy : y < 4294967296) (k : wq cf code rt (pc + 1) L (ev_oUsh x y :: st) sh F nc ns K) : wq cf code rt pc L (y :: x :: st) sh F nc ns K := by
  exact wq_fr hf rfl rfl (fun h => by simp [ev_step, ev_stH, ev_stA, ev_binI, wq_I hx, wq_I hy]) k
theorem wq_ladd {x y : Nat} (hf : ev_ft code pc = some (pc, .ladd, ln, a, b, t, w)) (hx : ev_isL x = true) (hy : ev_isL y = true) (k : wq cf code rt (pc + 1) L (ev_oAddL (x - 18446744073709551616) (y - 18446744073709551616) :: st) sh F nc ns K) : wq cf code rt pc L (y :: x :: st) sh F nc ns K := by
  exact wq_fr hf rfl rfl (fun h => by simp [ev_step, ev_stH, ev_stA, ev_binL, hx, hy]) k
theorem wq_lsub {x y : Nat} (hf : ev_ft code pc = some (pc, .lsub, ln, a, b, t, w)) (hx : ev_isL x = true) (hy : ev_isL y = true) (k : wq cf code rt (pc + 1) L (ev_oSubL (x - 18446744073709551616) (y - 18446744073709551616) :: st) sh F nc ns K) : wq cf code rt pc L (y :: x :: st) sh F nc ns K := by
  exact wq_fr hf rfl rfl (fun h => by simp [ev_step, ev_stH, ev_stA, ev_binL, hx, hy]) k
theorem wq_lmul {x y : Nat} (hf : ev_ft code pc = some (pc, .lmul, ln, a, b, t, w)) (hx : ev_isL x = true) (hy : ev_isL y = true) (k : wq cf code rt (pc + 1) L (ev_oMulL (x - 18446744073709551616) (y - 18446744073709551616) :: st) sh F nc ns K) : wq cf code rt pc L (y :: x :: st) sh F nc ns K := by
  exact wq_fr hf rfl rfl (fun h => by simp [ev_step, ev_stH, ev_stA, ev_binL, hx, hy]) k
theorem wq_land {x y : Nat} (hf : ev_ft code pc = some (pc, .land, ln, a, b, t, w)) (hx : ev_isL x = true) (hy : ev_isL y = true) (k : wq cf code rt (pc + 1) L (ev_oAndL (x - 18446744073709551616) (y - 18446744073709551616) :: st) sh F nc ns K) : wq cf code rt pc L (y :: x :: st) sh F nc ns K := by
  exact wq_fr hf rfl rfl (fun h => by simp [ev_step, ev_stH, ev_stA, ev_binL, hx, hy]) k
theorem wq_lxor {x y : Nat} (hf : ev_ft code pc = some (pc, .lxor, ln, a, b, t, w)) (hx : ev_isL x = true) (hy : ev_isL y = true) (k : wq cf code rt (pc + 1) L (ev_oXorL (x - 18446744073709551616) (y - 18446744073709551616) :: st) sh F nc ns K) : wq cf code rt pc L (y :: x :: st) sh F nc ns K := by
  exact wq_fr hf rfl rfl (fun h => by simp [ev_step, ev_stH, ev_stA, ev_binL, hx, hy]) k
theorem wq_lcmp {x y : Nat} (hf : ev_ft code pc = some (pc, .lcmp, ln, a, b, t, w)) (hx : ev_isL x = true) (hy : ev_isL y = true) (k : wq cf code rt (pc + 1) L (ev_oCmpL (x - 18446744073709551616) (y - 18446744073709551616) :: st) sh F nc ns K) : wq cf code rt pc L (y :: x :: st) sh F nc ns K := by
  exact wq_fr hf rfl rfl (fun h => by simp [ev_step, ev_stH, ev_stA, ev_binL, hx, hy]) k
theorem wq_ineg {x : Nat} (hf : ev_ft code pc = some (pc, .ineg, ln, a, b, t, w)) (hx : x < 4294967296) (k : wq cf code rt (pc + 1) L (ev_oNeg x :: st) sh F nc ns K) : wq cf code rt pc L (x :: st) sh F nc ns K := by
  exact wq_fr hf rfl rfl (fun h => by simp [ev_step, ev_stH, ev_stA, ev_unI, wq_I hx]) k
theorem wq_i2b {x : Nat} (hf : ev_ft code pc = some (pc, .i2b, ln, a, b, t, w)) (hx : x < 4294967296) (k : wq cf code rt (pc + 1) L (ev_b8 x :: st) sh F nc ns K) : wq cf code rt pc L (x :: st) sh F nc ns K := by
  exact wq_fr hf rfl rfl (fun h => by simp [ev_step, ev_stH, ev_stA, ev_unI, wq_I hx]) k
theorem wq_i2c {x : Nat} (hf : ev_ft code pc = some (pc, .i2c, ln, a, b, t, w)) (hx : x < 4294967296) (k : wq cf code rt (pc + 1) L (ev_oI2c x :: st) sh F nc ns K) : wq cf code rt pc L (x :: st) sh F nc ns K := by
  exact wq_fr hf rfl rfl (fun h => by simp [ev_step, ev_stH, ev_stA, ev_unI, wq_I hx]) k
theorem wq_i2l {x : Nat} (hf : ev_ft code pc = some (pc, .i2l, ln, a, b, t, w)) (hx : x < 4294967296) (k : wq cf code rt (pc + 1) L (ev_oI2l x :: st) sh F nc ns K) : wq cf code rt pc L (x :: st) sh F nc ns K := by
  exact wq_fr hf rfl rfl (fun h => by simp [ev_step, ev_stH, ev_stA, ev_unI, wq_I hx]) k
theorem wq_l2i {x : Nat} (hf : ev_ft code pc = some (pc, .l2i, ln, a, b, t, w)) (hx : ev_isL x = true) (k : wq cf code rt (pc + 1) L (ev_oL2i x :: st) sh F nc ns K) : wq cf code rt pc L (x :: st) sh F nc ns K := by
  exact wq_fr hf rfl rfl (fun h => by simp [ev_step, ev_stH, ev_stA, hx]) k
theorem wq_lushr {x y : Nat} (hf : ev_ft code pc = some (pc, .lushr, ln, a, b, t, w)) (hx : ev_isL x = true) (hy : y < 4294967296) (k : wq cf code rt (pc + 1) L (ev_oUshL x y :: st) sh F nc ns K) : wq cf code rt pc L (y :: x :: st) sh F nc ns K := by
  exact wq_fr hf rfl rfl (fun h => by simp [ev_step, ev_stH, ev_stA, hx, wq_I hy]) k
theorem wq_dup {x : Nat} (hf : ev_ft code pc = some (pc, .dup, ln, a, b, t, w)) (hx : ev_isL x = false) (k : wq cf code rt (pc + 1) L (x :: x :: st) sh F nc ns K) : wq cf code rt pc L (x :: st) sh F nc ns K := by
  exact wq_fr hf rfl rfl (fun h => by simp [ev_step, ev_stH, ev_stA, hx]) k
theorem wq_dup_x1 {x y : Nat} (hf : ev_ft code pc = some (pc, .dup_x1, ln, a, b, t, w)) (hx : ev_isL x = false) (hy : ev_isL y = false) (k : wq cf code rt (pc + 1) L (x :: y :: x :: st) sh F nc ns K) : wq cf code rt pc L (x :: y :: st) sh F nc ns K := by
  exact wq_fr hf rfl rfl (fun h => by simp [ev_step, ev_stH, ev_stA, hx, hy]) k
theorem wq_dup2 {x y : Nat} (hf : ev_ft code pc = some (pc, .dup2, ln, a, b, t, w)) (hx : ev_isL x = false) (hy : ev_isL y = false) (k : wq cf code rt (pc + 1) L (x :: y :: x :: y :: st) sh F nc ns K) : wq cf code rt pc L (x :: y :: st) sh F nc ns K := by
  exact wq_fr hf rfl rfl (fun h => by simp [ev_step, ev_stH, ev_stA, hx, hy]) k
theorem wq_dup2L {x : Nat} (hf : ev_ft code pc = some (pc, .dup2, ln, a, b, t, w)) (hx : ev_isL x = true) (k : wq cf code rt (pc + 1) L (x :: x :: st) sh F nc ns K) : wq cf code rt pc L (x :: st) sh F nc ns K := by
  exact wq_fr hf rfl rfl (fun h => by simp [ev_step, ev_stH, ev_stA, hx]) k
theorem wq_pop {x : Nat} (hf : ev_ft code pc = some (pc, .pop, ln, a, b, t, w)) (hx : ev_isL x = false) (k : wq cf code rt (pc + 1) L st sh F nc ns K) : wq cf code rt pc L (x :: st) sh F nc ns K := by
  exact wq_fr hf rfl rfl (fun h => by simp [ev_step, ev_stH, ev_stA, hx]) k
theorem wq_iinc {x n : Nat} {z : Int} {L' : List Nat} (hf : ev_ft code pc = some (pc, .iinc n z, ln, a, b, t, w)) (hL : L[n]? = some x) (hx : x < 4294967296) (hp : n = 0 ∨ ∃ y, L[n - 1]? = some y ∧ ev_isL y = false) (hz : decide (nI a = Int32.ofInt z) = true) (hL' : L.set n (ev_oAdd x a) = L') (k : wq cf code rt (pc + 3) L' st sh F nc ns K) : wq cf code rt pc L st sh F nc ns K := by
  subst hL'
  exact wq_fr hf rfl rfl (fun h => by simp only [ev_step, ev_stH, ev_stA, hL, wq_I hx, Nat.blt_eq.mpr (List.getElem?_eq_some_iff.mp hL).1, hz, wq_set1 hp, Bool.and_self, cond_true]) k
theorem wq_goto {off : Int} (hf : ev_ft code pc = some (pc, .goto off, ln, a, b, t, w)) (ho : decide ((pc : Int) + off = (a : Int)) = true) (k : wq cf code rt a L st sh F nc ns K) : wq cf code rt pc L st sh F nc ns K := by
  exact wq_fr hf rfl rfl (fun h => by simp only [ev_step, ev_stH, ev_stA, ho, cond_true]) k
theorem wq_bltF {x y : Nat} (h : Nat.blt x y = false) : ¬ x < y := fun q => by rw [Nat.blt_eq.mpr q] at h; cases h
theorem wq_bleF {x y : Nat} (h : Nat.ble x y = false) : ¬ x ≤ y := fun q => by rw [Nat.ble_eq_true_of_le q] at h; cases h
theorem wq_ifB {c : Jvm.ClassFile.Cond} {off : Int} {x : Nat} (hf : ev_ft code pc = some (pc, .ifCond c off, ln, a, b, t, w)) (ho : decide ((pc : Int) + off = (a : Int)) = true) (hx : x < 4294967296) (k1 : ev_if c x = true → wq cf code rt a L st sh F nc ns K) (k2 : ev_if c x = false → wq cf code rt (pc + 3) L st sh F nc ns K) : wq cf code rt pc L (x :: st) sh F nc ns K := by
  cases hc : ev_if c x
  · exact wq_fr hf rfl rfl (fun h => by simp only [ev_step, ev_stH, ev_stA, ho, ev_pI, wq_I hx, hc, cond_true, cond_false]) (k2 hc)
  · exact wq_fr hf rfl rfl (fun h => by simp only [ev_step, ev_stH, ev_stA, ho, ev_pI, wq_I hx, hc, cond_true]) (k1 hc)
theorem wq_icB {c : Jvm.ClassFile.Cond} {off : Int} {x y : Nat} (hf : ev_ft code pc = some (pc, .if_icmp c off, ln, a, b, t, w)) (ho : decide ((pc : Int) + off = (a : Int)) = true) (hx : x < 4294967296) (hy : y < 4294967296) (k1 : ev_ic c x y = true → wq cf code rt a L st sh F nc ns K) (k2 : ev_ic c x y = false → wq cf code rt (pc + 3) L st sh F nc ns K) : wq cf code rt pc L (y :: x :: st) sh F nc ns K := by
  cases hc : ev_ic c x y
  · exact wq_fr hf rfl rfl (fun h => by simp only [ev_step, ev_stH, ev_stA, ho, ev_pI, wq_I hx, wq_I hy, hc, Bool.and_self, cond_true, cond_false]) (k2 hc)
  · exact wq_fr hf rfl rfl (fun h => by simp only [ev_step, ev_stH, ev_stA, ho, ev_pI, wq_I hx, wq_I hy, hc, Bool.and_self, cond_true]) (k1 hc)
theorem wq_if_eq {off : Int} {x : Nat} (hf : ev_ft code pc = some (pc, .ifCond .eq off, ln, a, b, t, w)) (ho : decide ((pc : Int) + off = (a : Int)) = true) (hx : x < 4294967296) (k1 : x = 0 → wq cf code rt a L st sh F nc ns K) (k2 : ¬ x = 0 → wq cf code rt (pc + 3) L st sh F nc ns K) : wq cf code rt pc L (x :: st) sh F nc ns K := by
  refine wq_ifB hf ho hx (fun h => k1 ?_) (fun h => k2 ?_)
  · exact Nat.eq_of_beq_eq_true h
  · intro q; subst q; cases h
theorem wq_if_ne {off : Int} {x : Nat} (hf : ev_ft code pc = some (pc, .ifCond .ne off, ln, a, b, t, w)) (ho : decide ((pc : Int) + off = (a : Int)) = true) (hx : x < 4294967296) (k1 : ¬ x = 0 → wq cf code rt a L st sh F nc ns K) (k2 : x = 0 → wq cf code rt (pc + 3) L st sh F nc ns K) : wq cf code rt pc L (x :: st) sh F nc ns K := by
  refine wq_ifB hf ho hx (fun h => k1 ?_) (fun h => k2 ?_)
  · intro q; subst q; cases h
  · have h : (!(Nat.beq x 0)) = false := h
    rw [Bool.not_eq_false'] at h
    exact Nat.eq_of_beq_eq_true h
theorem wq_if_lt {off : Int} {x : Nat} (hf : ev_ft code pc = some (pc, .ifCond .lt off, ln, a, b, t, w)) (ho : decide ((pc : Int) + off = (a : Int)) = true) (hx : x < 4294967296) (k1 : 2147483648 ≤ x → wq cf code rt a L st sh F nc ns K) (k2 : x < 2147483648 → wq cf code rt (pc + 3) L st sh F nc ns K) : wq cf code rt pc L (x :: st) sh F nc ns K := by
  refine wq_ifB hf ho hx (fun h => k1 ?_) (fun h => k2 ?_)
  · have h : Nat.blt (ev_s x) 2147483648 = true := h
    have h := Nat.blt_eq.mp h
    unfold ev_s at h
    omega
  · have h : Nat.blt (ev_s x) 2147483648 = false := h
    have h := wq_bltF h
    unfold ev_s at h
    omega
theorem wq_if_ge {off : Int} {x : Nat} (hf : ev_ft code pc = some (pc, .ifCond .ge off, ln, a, b, t, w)) (ho : decide ((pc : Int) + off = (a : Int)) = true) (hx : x < 4294967296) (k1 : x < 2147483648 → wq cf code rt a L st sh F nc ns K) (k2 : 2147483648 ≤ x → wq cf code rt (pc + 3) L st sh F nc ns K) : wq cf code rt pc L (x :: st) sh F nc ns K := by
  refine wq_ifB hf ho hx (fun h => k1 ?_) (fun h => k2 ?_)
  · have h : Nat.ble 2147483648 (ev_s x) = true := h
    have h := Nat.le_of_ble_eq_true h
    unfold ev_s at h
    omega
  · have h : Nat.ble 2147483648 (ev_s x) = false := h
    have h := wq_bleF h
    unfold ev_s at h
    omega
theorem wq_if_gt {off : Int} {x : Nat} (hf : ev_ft code pc = some (pc, .ifCond .gt off, ln, a, b, t, w)) (ho : decide ((pc : Int) + off = (a : Int)) = true) (hx : x < 4294967296) (k1 : 0 < x ∧ x < 2147483648 → wq cf code rt a L st sh F nc ns K) (k2 : ¬ (0 < x ∧ x < 2147483648) → wq cf code rt (pc + 3) L st sh F nc ns K) : wq cf code rt pc L (x :: st) sh F nc ns K := by
  refine wq_ifB hf ho hx (fun h => k1 ?_) (fun h => k2 ?_)
  · have h : Nat.blt 2147483648 (ev_s x) = true := h
    have h := Nat.blt_eq.mp h
    unfold ev_s at h
    omega
  · have h : Nat.blt 2147483648 (ev_s x) = false := h
    have h := wq_bltF h
    unfold ev_s at h
    omega
theorem wq_if_le {off : Int} {x : Nat} (hf : ev_ft code pc = some (pc, .ifCond .le off, ln, a, b, t, w)) (ho : decide ((pc : Int) + off = (a : Int)) = true) (hx : x < 4294967296) (k1 : ¬ (0 < x ∧ x < 2147483648) → wq cf code rt a L st sh F nc ns K) (k2 : 0 < x ∧ x < 2147483648 → wq cf code rt (pc + 3) L st sh F nc ns K) : wq cf code rt pc L (x :: st) sh F nc ns K := by
  refine wq_ifB hf ho hx (fun h => k1 ?_) (fun h => k2 ?_)
  · have h : Nat.ble (ev_s x) 2147483648 = true := h
    have h := Nat.le_of_ble_eq_true h
    unfold ev_s at h
    omega
  · have h : Nat.ble (ev_s x) 2147483648 = false := h
    have h := wq_bleF h
    unfold ev_s at h
    omega
theorem wq_ic_eq {off : Int} {x y : Nat} (hf : ev_ft code pc = some (pc, .if_icmp .eq off, ln, a, b, t, w)) (ho : decide ((pc : Int) + off = (a : Int)) = true) (hx : x < 4294967296) (hy : y < 4294967296) (k1 : x = y → wq cf code rt a L st sh F nc ns K) (k2 : ¬ x = y → wq cf code rt (pc + 3) L st sh F nc ns K) : wq cf code rt pc L (y :: x :: st) sh F nc ns K := by
  refine wq_icB hf ho hx hy (fun h => k1 ?_) (fun h => k2 ?_)
  · exact Nat.eq_of_beq_eq_true h
  · intro q; subst q
    have h : Nat.beq x x = false := h
    rw [Nat.beq_refl] at h; cases h
theorem wq_ic_ne {off : Int} {x y : Nat} (hf : ev_ft code pc = some (pc, .if_icmp .ne off, ln, a, b, t, w)) (ho : decide ((pc : Int) + off = (a : Int)) = true) (hx : x < 4294967296) (hy : y < 4294967296) (k1 : ¬ x = y → wq cf code rt a L st sh F nc ns K) (k2 : x = y → wq cf code rt (pc + 3) L st sh F nc ns K) : wq cf code rt pc L (y :: x :: st) sh F nc ns K := by
  refine wq_icB hf ho hx hy (fun h => k1 ?_) (fun h => k2 ?_)
  · intro q; subst q
    have h : (!(Nat.beq x x)) = true := h
    rw [Nat.beq_refl] at h; cases h
  · have h : (!(Nat.beq x y)) = false := h
    rw [Bool.not_eq_false'] at h
    exact Nat.eq_of_beq_eq_true h
theorem wq_ic_lt {off : Int} {x y : Nat} (hf : ev_ft code pc = some (pc, .if_icmp .lt off, ln, a, b, t, w)) (ho : decide ((pc : Int) + off = (a : Int)) = true) (hx : x < 4294967296) (hy : y < 4294967296) (k1 : ev_s x < ev_s y → wq cf code rt a L st sh F nc ns K) (k2 : ev_s y ≤ ev_s x → wq cf code rt (pc + 3) L st sh F nc ns K) : wq cf code rt pc L (y :: x :: st) sh F nc ns K := by
  refine wq_icB hf ho hx hy (fun h => k1 ?_) (fun h => k2 ?_)
  · exact Nat.blt_eq.mp h
  · exact Nat.le_of_not_lt (wq_bltF h)
theorem wq_ic_ge {off : Int} {x y : Nat} (hf : ev_ft code pc = some (pc, .if_icmp .ge off, ln, a, b, t, w)) (ho : decide ((pc : Int) + off = (a : Int)) = true) (hx : x < 4294967296) (hy : y < 4294967296) (k1 : ev_s y ≤ ev_s x → wq cf code rt a L st sh F nc ns K) (k2 : ev_s x < ev_s y → wq cf code rt (pc + 3) L st sh F nc ns K) : wq cf code rt pc L (y :: x :: st) sh F nc ns K := by
  refine wq_icB hf ho hx hy (fun h => k1 ?_) (fun h => k2 ?_)
  · exact Nat.le_of_ble_eq_true h
  · exact Nat.lt_of_not_le (wq_bleF h)
theorem wq_ic_gt {off : Int} {x y : Nat} (hf : ev_ft code pc = some (pc, .if_icmp .gt off, ln, a, b, t, w)) (ho : decide ((pc : Int) + off = (a : Int)) = true) (hx : x < 4294967296) (hy : y < 4294967296) (k1 : ev_s y < ev_s x → wq cf code rt a L st sh F nc ns K) (k2 : ev_s x ≤ ev_s y → wq cf code rt (pc + 3) L st sh F nc ns K) : wq cf code rt pc L (y :: x :: st) sh F nc ns K := by
  refine wq_icB hf ho hx hy (fun h => k1 ?_) (fun h => k2 ?_)
  · exact Nat.blt_eq.mp h
  · exact Nat.le_of_not_lt (wq_bltF h)
theorem wq_ic_le {off : Int} {x y : Nat} (hf : ev_ft code pc = some (pc, .if_icmp .le off, ln, a, b, t, w)) (ho : decide ((pc : Int) + off = (a : Int)) = true) (hx : x < 4294967296) (hy : y < 4294967296) (k1 : ev_s x ≤ ev_s y → wq cf code rt a L st sh F nc ns K) (k2 : ev_s y < ev_s x → wq cf code rt (pc + 3) L st sh F nc ns K) : wq cf code rt pc L (y :: x :: st) sh F nc ns K := by
  refine wq_icB hf ho hx hy (fun h => k1 ?_) (fun h => k2 ?_)
  · exact Nat.le_of_ble_eq_true h
  · exact Nat.lt_of_not_le (wq_bleF h)
theorem wq_getfield {ix : Nat} {q ci n : Nat} (hf : ev_ft code pc = some (pc, .getfield ix, ln, ci, b, t, w)) (hq : sh[q]? = some (ci, n)) (hqb : q < 18446744073709551616) (hb : b < n) (k : wq cf code rt (pc + 3) L (F q b :: st) sh F nc ns K) : wq cf code rt pc L ((36893488147419103232 + q) :: st) sh F nc ns K :=
  wq_one hf rfl (fun B hB => ⟨B, hB, ev_stepX_of rfl (by simp only [ev_step, ev_stH, wq_o hq hqb, Nat.beq_refl, Nat.blt_eq.mpr hb, Bool.and_self, cond_true, hB q b])⟩) (Nat.le_refl _) (Nat.le_refl _) k
theorem wq_fitlt {t v : Nat} (h : ev_fit t v = true) : v < 4722366482869645213696 := by
  unfold ev_fit at h
  split at h
  · have := ev_isI_s h; omega
  · simp only [Bool.and_eq_true] at h
    have := ev_isI_s h.1; omega
  · have := Nat.blt_eq.mp h; omega
  · have := ev_isL_s h; omega
  · rw [Bool.or_eq_true] at h
    rcases h with h | h
    · have := ev_isR_s h; omega
    · have := Nat.eq_of_beq_eq_true h; omega
  · cases h
theorem wq_putfield {ix : Nat} {q ci n v : Nat} (hf : ev_ft code pc = some (pc, .putfield ix, ln, ci, b, t, w)) (hq : sh[q]? = some (ci, n)) (hqb : q < 18446744073709551616) (hb : b < n) (hv : ev_fit t v = true) (k : wq cf code rt (pc + 3) L st sh (wq_up F q b v) nc ns K) : wq cf code rt pc L (v :: (36893488147419103232 + q) :: st) sh F nc ns K :=
  wq_one hf rfl (fun B hB => ⟨wq_ch B q (ev_up (B q) b v), wq_is_up hB (wq_fitlt hv), ev_stepX_of rfl (by simp only [ev_step, ev_stH, wq_o hq hqb, Nat.beq_refl, Nat.blt_eq.mpr hb, Nat.zero_le, Nat.ble_eq_true_of_le, hv, Bool.and_self, cond_true, Nat.add_sub_cancel_left, wq_mk_set hq])⟩) (Nat.le_refl _) (Nat.le_refl _) k
theorem wq_ix {q kd n j : Nat} {B : Nat → Nat} (hq : sh[q]? = some (kd, n)) (hqb : q < 18446744073709551616) (hj : j < n) (hn : n < 2147483648) : ev_ix kd (wq_mk sh 0 B) j (36893488147419103232 + q) = some (ev_at (B q) j) := by
  simp only [ev_ix, wq_o hq hqb, Nat.beq_refl, wq_I (show j < 4294967296 by omega), Nat.blt_eq.mpr hj, Nat.blt_eq.mpr hn, Bool.and_self, cond_true]
theorem wq_wr {q kd n j v : Nat} {B : Nat → Nat} (hq : sh[q]? = some (kd, n)) (hqb : q < 18446744073709551616) (hj : j < n) (hn : n < 2147483648) : ev_wr kd 0 (wq_mk sh 0 B) j (36893488147419103232 + q) v = some (wq_mk sh 0 (wq_ch B q (ev_up (B q) j v))) := by
  simp only [ev_wr, wq_o hq hqb, Nat.beq_refl, wq_I (show j < 4294967296 by omega), Nat.blt_eq.mpr hj, Nat.blt_eq.mpr hn, Nat.zero_le, Nat.ble_eq_true_of_le, Bool.and_self, cond_true, Nat.add_sub_cancel_left, wq_mk_set hq]
theorem wq_isZ {q kd n : Nat} {B : Nat → Nat} {r : List Nat} (hq : sh[q]? = some (kd, n)) (hqb : q < 18446744073709551616) : ev_isZ (wq_mk sh 0 B) ((36893488147419103232 + q) :: r) = Nat.beq kd 1002 := by
  simp only [ev_isZ, wq_o hq hqb]
theorem wq_iaload {q n j : Nat} (hf : ev_ft code pc = some (pc, .iaload, ln, a, b, t, w)) (hq : sh[q]? = some (1000, n)) (hqb : q < 18446744073709551616) (hj : j < n) (hn : n < 2147483648) (k : wq cf code rt (pc + 1) L (F q j :: st) sh F nc ns K) : wq cf code rt pc L (j :: (36893488147419103232 + q) :: st) sh F nc ns K :=
  wq_one hf rfl (fun B hB => ⟨B, hB, ev_stepX_of rfl (by simp only [ev_step, ev_stH, ev_rdI, wq_ix hq hqb hj hn, hB q j])⟩) (Nat.le_refl _) (Nat.le_refl _) k
theorem wq_caload {q n j : Nat} (hf : ev_ft code pc = some (pc, .caload, ln, a, b, t, w)) (hq : sh[q]? = some (1003, n)) (hqb : q < 18446744073709551616) (hj : j < n) (hn : n < 2147483648) (k : wq cf code rt (pc + 1) L (F q j :: st) sh F nc ns K) : wq cf code rt pc L (j :: (36893488147419103232 + q) :: st) sh F nc ns K :=
  wq_one hf rfl (fun B hB => ⟨B, hB, ev_stepX_of rfl (by simp only [ev_step, ev_stH, ev_rdI, wq_ix hq hqb hj hn, hB q j])⟩) (Nat.le_refl _) (Nat.le_refl _) k
theorem wq_baload {q n j : Nat} (hf : ev_ft code pc = some (pc, .baload, ln, a, b, t, w)) (hq : sh[q]? = some (1001, n)) (hqb : q < 18446744073709551616) (hj : j < n) (hn : n < 2147483648) (k : wq cf code rt (pc + 1) L (F q j :: st) sh F nc ns K) : wq cf code rt pc L (j :: (36893488147419103232 + q) :: st) sh F nc ns K :=
  wq_one hf rfl (fun B hB => ⟨B, hB, ev_stepX_of rfl (by simp only [ev_step, ev_stH, ev_rdI, List.tail_cons, wq_isZ hq hqb, show Nat.beq 1001 1002 = false from rfl, cond_false, wq_ix hq hqb hj hn, hB q j])⟩) (Nat.le_refl _) (Nat.le_refl _) k
theorem wq_zaload {q n j : Nat} (hf : ev_ft code pc = some (pc, .baload, ln, a, b, t, w)) (hq : sh[q]? = some (1002, n)) (hqb : q < 18446744073709551616) (hj : j < n) (hn : n < 2147483648) (k : wq cf code rt (pc + 1) L (F q j :: st) sh F nc ns K) : wq cf code rt pc L (j :: (36893488147419103232 + q) :: st) sh F nc ns K :=
  wq_one hf rfl (fun B hB => ⟨B, hB, ev_stepX_of rfl (by simp only [ev_step, ev_stH, ev_rdI, List.tail_cons, wq_isZ hq hqb, show Nat.beq 1002 1002 = true from rfl, cond_true, wq_ix hq hqb hj hn, hB q j])⟩) (Nat.le_refl _) (Nat.le_refl _) k
theorem wq_laload {q n j : Nat} (hf : ev_ft code pc = some (pc, .laload, ln, a, b, t, w)) (hq : sh[q]? = some (1010, n)) (hqb : q < 18446744073709551616) (hj : j < n) (hn : n < 2147483648) (k : wq cf code rt (pc + 1) L ((18446744073709551616 + F q j) :: st) sh F nc ns K) : wq cf code rt pc L (j :: (36893488147419103232 + q) :: st) sh F nc ns K :=
  wq_one hf rfl (fun B hB => ⟨B, hB, ev_stepX_of rfl (by simp only [ev_step, ev_stH, wq_ix hq hqb hj hn, hB q j])⟩) (Nat.le_refl _) (Nat.le_refl _) k
theorem wq_iastore {q n j v : Nat} (hf : ev_ft code pc = some (pc, .iastore, ln, a, b, t, w)) (hq : sh[q]? = some (1000, n)) (hqb : q < 18446744073709551616) (hj : j < n) (hn : n < 2147483648) (hv : v < 4294967296) (k : wq cf code rt (pc + 1) L st sh (wq_up F q j v) nc ns K) : wq cf code rt pc L (v :: j :: (36893488147419103232 + q) :: st) sh F nc ns K :=
  wq_one hf rfl (fun B hB => ⟨wq_ch B q (ev_up (B q) j v), wq_is_up hB (by omega), ev_stepX_of rfl (by simp only [ev_step, ev_stH, wq_I hv, cond_true, wq_wr hq hqb hj hn])⟩) (Nat.le_refl _) (Nat.le_refl _) k
theorem wq_bastore {q n j v : Nat} (hf : ev_ft code pc = some (pc, .bastore, ln, a, b, t, w)) (hq : sh[q]? = some (1001, n)) (hqb : q < 18446744073709551616) (hj : j < n) (hn : n < 2147483648) (hv : v < 4294967296) (k : wq cf code rt (pc + 1) L st sh (wq_up F q j (ev_b8 v)) nc ns K) : wq cf code rt pc L (v :: j :: (36893488147419103232 + q) :: st) sh F nc ns K :=
  wq_one hf rfl (fun B hB => ⟨wq_ch B q (ev_up (B q) j (ev_b8 v)), wq_is_up hB (by have := ev_b8_lt v; omega), ev_stepX_of rfl (by simp only [ev_step, ev_stH, wq_isZ hq hqb, show Nat.beq 1001 1002 = false from rfl, cond_false, wq_I hv, cond_true, wq_wr hq hqb hj hn])⟩) (Nat.le_refl _) (Nat.le_refl _) k
theorem wq_zastore {q n j v : Nat} (hf : ev_ft code pc = some (pc, .bastore, ln, a, b, t, w)) (hq : sh[q]? = some (1002, n)) (hqb : q < 18446744073709551616) (hj : j < n) (hn : n < 2147483648) (hv : v < 2) (k : wq cf code rt (pc + 1) L st sh (wq_up F q j v) nc ns K) : wq cf code rt pc L (v :: j :: (36893488147419103232 + q) :: st) sh F nc ns K :=
  wq_one hf rfl (fun B hB => ⟨wq_ch B q (ev_up (B q) j v), wq_is_up hB (by omega), ev_stepX_of rfl (by simp only [ev_step, ev_stH, wq_isZ hq hqb, show Nat.beq 1002 1002 = true from rfl, Nat.blt_eq.mpr hv, cond_true, wq_wr hq hqb hj hn])⟩) (Nat.le_refl _) (Nat.le_refl _) k
theorem wq_lastore {q n j v : Nat} (hf : ev_ft code pc = some (pc, .lastore, ln, a, b, t, w)) (hq : sh[q]? = some (1010, n)) (hqb : q < 18446744073709551616) (hj : j < n) (hn : n < 2147483648) (hv : ev_isL v = true) (k : wq cf code rt (pc + 1) L st sh (wq_up F q j (v - 18446744073709551616)) nc ns K) : wq cf code rt pc L (v :: j :: (36893488147419103232 + q) :: st) sh F nc ns K :=
  wq_one hf rfl (fun B hB => ⟨wq_ch B q (ev_up (B q) j (v - 18446744073709551616)), wq_is_up hB (by have := ev_isL_s hv; omega), ev_stepX_of rfl (by simp only [ev_step, ev_stH, hv, cond_true, wq_wr hq hqb hj hn])⟩) (Nat.le_refl _) (Nat.le_refl _) k
theorem wq_alen {q kd n : Nat} (hf : ev_ft code pc = some (pc, .arraylength, ln, a, b, t, w)) (hq : sh[q]? = some (kd, n)) (hqb : q < 18446744073709551616) (hkd : 1000 ≤ kd) (hn : n < 4294967296) (k : wq cf code rt (pc + 1) L (n :: st) sh F nc ns K) : wq cf code rt pc L ((36893488147419103232 + q) :: st) sh F nc ns K :=
  wq_one hf rfl (fun B hB => ⟨B, hB, ev_stepX_of rfl (by simp only [ev_step, ev_stH, wq_o hq hqb, Nat.ble_eq_true_of_le hkd, wq_I hn, Bool.and_self, cond_true])⟩) (Nat.le_refl _) (Nat.le_refl _) k
theorem wq_ldc {ix : Nat} (hf : ev_ft code pc = some (pc, .ldc ix, ln, a, b, t, w)) (ha : a < 4294967296) (k : wq cf code rt (pc + 2) L (a :: st) sh F nc ns K) : wq cf code rt pc L st sh F nc ns K :=
  wq_fr hf rfl rfl (fun h => by simp only [ev_step, ev_stH, wq_I ha, cond_true]) k
theorem wq_ldc_w {ix : Nat} (hf : ev_ft code pc = some (pc, .ldc_w ix, ln, a, b, t, w)) (ha : a < 4294967296) (k : wq cf code rt (pc + 3) L (a :: st) sh F nc ns K) : wq cf code rt pc L st sh F nc ns K :=
  wq_fr hf rfl rfl (fun h => by simp only [ev_step, ev_stH, wq_I ha, cond_true]) k
theorem wq_ldc2 {ix : Nat} (hf : ev_ft code pc = some (pc, .ldc2_w ix, ln, a, b, t, w)) (ha : a < 18446744073709551616) (k : wq cf code rt (pc + 3) L ((18446744073709551616 + a) :: st) sh F nc ns K) : wq cf code rt pc L st sh F nc ns K :=
  wq_fr hf rfl rfl (fun h => by simp only [ev_step, ev_stH, Nat.blt_eq.mpr ha, cond_true]) k
/-! ends -/
theorem wq_end {x : ev_I} {r : Option Nat} (hf : ev_ft code pc = some x) (he : ev_end x.2.1 rt st = some r) (hK : K r sh F nc ns) : wq cf code rt pc L st sh F nc ns K := by
  intro B hB
  refine ⟨1, r, B, sh, F, nc, ns, ?_, hB, hK⟩
  rw [ev_run_s, hf]
  dsimp only
  rw [he]
theorem wq_ret (hf : ev_ft code pc = some (pc, .return_, ln, a, b, t, w)) (hK : K none sh F nc ns) : wq cf code none pc L [] sh F nc ns K := wq_end hf rfl hK
theorem wq_iret {x : Nat} {ty : FieldType} (hf : ev_ft code pc = some (pc, .ireturn, ln, a, b, t, w)) (hx : x < 4294967296) (hr : ev_rok ty x = true) (hK : K (some x) sh F nc ns) : wq cf code (some ty) pc L [x] sh F nc ns K := wq_end hf (by simp only [ev_end, wq_I hx, hr, Bool.and_self, cond_true]) hK
theorem wq_lret {x : Nat} (hf : ev_ft code pc = some (pc, .lreturn, ln, a, b, t, w)) (hx : ev_isL x = true) (hK : K (some x) sh F nc ns) : wq cf code (some .long) pc L [x] sh F nc ns K := wq_end hf (by simp only [ev_end, hx, cond_true]) hK
/-! calls -/
theorem wq_inv {x : ev_I} {mid n : Nat} {as rest : List Nat} (hf : ev_ft code pc = some x) (he : ev_isRet x.2.1 = false) (hs : ∀ B, ev_stepX 0 al_dfl (wq_cf d) x.2.1 x.2.2.2.1 x.2.2.2.2.1 x.2.2.2.2.2.1 pc L st (wq_mk sh 0 B) nc ns = ev_inv (wq_cf d) mid n pc L st (wq_mk sh 0 B) nc ns ∨ ∀ g, ev_inv (wq_cf d) mid n pc L st (wq_mk sh 0 B) nc ns = some g → ev_stepX 0 al_dfl (wq_cf d) x.2.1 x.2.2.2.1 x.2.2.2.2.1 x.2.2.2.2.2.1 pc L st (wq_mk sh 0 B) nc ns = some g) (hn : n ≤ st.length) (hd : st.drop n = rest) (hcat : ev_cat rest ≤ 8) (has : (st.take n).reverse = as)
    (k : mq d mid as sh F (fun r sh' F' mc ms => wq (wq_cf d) code rt (pc + 3) L (r.toList ++ rest) sh' F' (nc + mc) (ns + ms) K)) : wq (wq_cf d) code rt pc L st sh F nc ns K := by
  intro B hB
  subst hd; subst has
  obtain ⟨r, B1, sh1, F1, mc, ms, h1, h2, h3⟩ := k B hB
  obtain ⟨N, r', B', sh2, F2, mc2, ms2, h4, h5, h6⟩ := h3 B1 h2
  have hi : ev_inv (wq_cf d) mid n pc L st (wq_mk sh 0 B) nc ns = some ((pc + 3, L, r.toList ++ st.drop n), wq_mk sh1 0 B1, nc + mc, ns + ms) := by
    unfold ev_inv
    rw [Nat.ble_eq_true_of_le hn, Nat.ble_eq_true_of_le hcat, show wq_cf d mid (st.take n).reverse (wq_mk sh 0 B) = _ from h1]
    cases r <;> rfl
  have hx : ev_stepX 0 al_dfl (wq_cf d) x.2.1 x.2.2.2.1 x.2.2.2.2.1 x.2.2.2.2.2.1 pc L st (wq_mk sh 0 B) nc ns = some ((pc + 3, L, r.toList ++ st.drop n), wq_mk sh1 0 B1, nc + mc, ns + ms) := by
    rcases hs B with h | h
    · rw [h, hi]
    · exact h _ hi
  have hg := ev_goes.one (nr := 0) (dfl := al_dfl) (cf := wq_cf d) (rt := rt) hf (ev_end_no he rt st) hx (by rw [Nat.ble_eq_true_of_le (Nat.le_add_right _ _), Nat.ble_eq_true_of_le (Nat.le_add_right _ _)]; rfl)
  exact ⟨N + 1, r', B', sh2, F2, mc2, ms2, by rw [show ev_run 0 al_dfl (wq_cf d) code rt (N + 1) pc L st (wq_mk sh 0 B) nc ns = _ from hg N]; exact h4, h5, h6⟩
/-- a virtual call of an object of ours -/
theorem wq_virt {ix n q ci nf : Nat} {as rest tl : List Nat} (hf : ev_ft code pc = some (pc, .invokevirtual ix, ln, a, n, ci, w)) (ho : st.drop (n - 1) = (36893488147419103232 + q) :: tl) (hq : sh[q]? = some (ci, nf)) (hqb : q < 18446744073709551616) (hn0 : 0 < n) (hn : n ≤ st.length) (hd : st.drop n = rest) (hcat : ev_cat rest ≤ 8) (has : (st.take n).reverse = as)
    (k : mq d a as sh F (fun r sh' F' mc ms => wq (wq_cf d) code rt (pc + 3) L (r.toList ++ rest) sh' F' (nc + mc) (ns + ms) K)) : wq (wq_cf d) code rt pc L st sh F nc ns K :=
  wq_inv hf rfl (fun B => Or.inr (fun g hg => ev_stepX_of rfl (by simp only [ev_step, ho, wq_o hq hqb, Nat.beq_refl, Nat.blt_eq.mpr hn0, Bool.and_self, cond_true]; exact hg))) hn hd hcat has k
theorem wq_stat {ix n : Nat} {as rest : List Nat} (hf : ev_ft code pc = some (pc, .invokestatic ix, ln, a, n, t, w)) (ha : a < 997) (hn : n ≤ st.length) (hd : st.drop n = rest) (hcat : ev_cat rest ≤ 8) (has : (st.take n).reverse = as)
    (k : mq d a as sh F (fun r sh' F' mc ms => wq (wq_cf d) code rt (pc + 3) L (r.toList ++ rest) sh' F' (nc + mc) (ns + ms) K)) : wq (wq_cf d) code rt pc L st sh F nc ns K :=
  wq_inv hf rfl (fun B => Or.inr (fun g hg => ev_stepX_of (by
    show (Nat.ble 997 a && Nat.ble a 999) = false
    cases h : Nat.ble 997 a
    · rfl
    · have := Nat.le_of_ble_eq_true h
      omega) (by simp only [ev_step]; exact hg))) hn hd hcat has k
theorem wq_bind {sh' : List (Nat × Nat)} {K1 : Option Nat → List (Nat × Nat) → wq_F → Nat → Nat → Prop} (h : wq cf code rt pc L st sh F nc ns K1) (hK : ∀ r sh F mc ms, K1 r sh F mc ms → K r sh F mc ms) : wq cf code rt pc L st sh F nc ns K := by
  intro B hB
  obtain ⟨N, r, B', sh2, F2, mc, ms, h1, h2, h3⟩ := h B hB
  exact ⟨N, r, B', sh2, F2, mc, ms, h1, h2, hK _ _ _ _ _ h3⟩
end WQ
