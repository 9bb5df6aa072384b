/-! ===== 02: the evaluator's values, and the instructions that move the frame alone ===== -/
abbrev ev_C : Type := Nat × Nat × Nat
abbrev ev_H : Type := List ev_C
abbrev ev_KA : Type := List (Nat × Nat)
/-- a value: an int n as n, a long n as 2^64 + n, a reference to cell k as 2^65 + k, null as 3 * 2^64; a local that holds nothing as 4 * 2^64; the i-th constant string 5 * 2^64 + i, its row of bytes 6 * 2^64 + i; 7 * 2^64: some reference or null, nobody asks which -/
def ev_v (ka : ev_KA) (ads : List Nat) (x : Nat) (v : Value) : Prop :=
  (x < 4294967296 ∧ v = .int (nI x)) ∨ (∃ n, n < 18446744073709551616 ∧ x = 18446744073709551616 + n ∧ v = .long (lN n)) ∨ (∃ k q, k < 18446744073709551616 ∧ x = 36893488147419103232 + k ∧ ads[k]? = some q ∧ v = .ref q) ∨ (x = 55340232221128654848 ∧ v = .null) ∨ (∃ i q, i < 18446744073709551616 ∧ x = 92233720368547758080 + i ∧ ka[i]? = some q ∧ v = .ref q.1) ∨ (∃ i q, i < 18446744073709551616 ∧ x = 110680464442257309696 + i ∧ ka[i]? = some q ∧ v = .ref q.2) ∨ (x = 129127208515966861312 ∧ (v = .null ∨ ∃ q, v = .ref q))
def ev_isI (x : Nat) : Bool := Nat.blt x 4294967296
def ev_isL (x : Nat) : Bool := Nat.ble 18446744073709551616 x && Nat.blt x 36893488147419103232
def ev_isR (x : Nat) : Bool := Nat.ble 36893488147419103232 x && Nat.blt x 55340232221128654848
def ev_isN (x : Nat) : Bool := Nat.beq x 55340232221128654848
theorem ev_isI_s {x : Nat} (h : ev_isI x = true) : x < 4294967296 := Nat.blt_eq.mp h
theorem ev_isL_s {x : Nat} (h : ev_isL x = true) : 18446744073709551616 ≤ x ∧ x < 36893488147419103232 := by
  simp only [ev_isL, Bool.and_eq_true] at h
  exact ⟨Nat.le_of_ble_eq_true h.1, Nat.blt_eq.mp h.2⟩
theorem ev_isL_f {x : Nat} (h : ev_isL x = false) : ¬ (18446744073709551616 ≤ x ∧ x < 36893488147419103232) := by
  intro q
  simp only [ev_isL, Bool.and_eq_false_iff] at h
  rcases h with h | h
  · rw [Nat.ble_eq_true_of_le q.1] at h; cases h
  · rw [Nat.blt_eq.mpr q.2] at h; cases h
theorem ev_isR_s {x : Nat} (h : ev_isR x = true) : 36893488147419103232 ≤ x ∧ x < 55340232221128654848 := by
  simp only [ev_isR, Bool.and_eq_true] at h
  exact ⟨Nat.le_of_ble_eq_true h.1, Nat.blt_eq.mp h.2⟩
theorem ev_v.i {ka : ev_KA} {ads : List Nat} {x : Nat} {v : Value} (h : ev_v ka ads x v) (hx : ev_isI x = true) : v = .int (nI x) ∧ x < 4294967296 := by
  have hx := ev_isI_s hx
  rcases h with h | ⟨n, _, h, _⟩ | ⟨k, q, _, h, _⟩ | ⟨h, _⟩ | ⟨i, q, _, h, _⟩ | ⟨i, q, _, h, _⟩ | ⟨h, _⟩
  · exact ⟨h.2, hx⟩
  all_goals omega
theorem ev_v.l {ka : ev_KA} {ads : List Nat} {x : Nat} {v : Value} (h : ev_v ka ads x v) (hx : ev_isL x = true) : v = .long (lN (x - 18446744073709551616)) ∧ x - 18446744073709551616 < 18446744073709551616 := by
  have hx := ev_isL_s hx
  rcases h with h | ⟨n, hn, h, e⟩ | ⟨k, q, _, h, _⟩ | ⟨h, _⟩ | ⟨i, q, _, h, _⟩ | ⟨i, q, _, h, _⟩ | ⟨h, _⟩
  · omega
  · have : x - 18446744073709551616 = n := by omega
    rw [this]
    exact ⟨e, hn⟩
  all_goals omega
theorem ev_v.r {ka : ev_KA} {ads : List Nat} {x : Nat} {v : Value} (h : ev_v ka ads x v) (hx : ev_isR x = true) : ∃ q, ads[x - 36893488147419103232]? = some q ∧ v = .ref q := by
  have hx := ev_isR_s hx
  rcases h with h | ⟨n, hn, h, e⟩ | ⟨k, q, hk, h, h1, h2⟩ | ⟨h, _⟩ | ⟨i, q, _, h, _⟩ | ⟨i, q, _, h, _⟩ | ⟨h, _⟩
  · omega
  · omega
  · have : x - 36893488147419103232 = k := by omega
    rw [this]
    exact ⟨q, h1, h2⟩
  all_goals omega
theorem ev_v.n {ka : ev_KA} {ads : List Nat} {x : Nat} {v : Value} (h : ev_v ka ads x v) (hx : ev_isN x = true) : v = .null := by
  have hx := Nat.eq_of_beq_eq_true hx
  rcases h with h | ⟨n, hn, h, e⟩ | ⟨k, q, hk, h, h1, h2⟩ | ⟨h, e⟩ | ⟨i, q, _, h, _⟩ | ⟨i, q, _, h, _⟩ | ⟨h, _⟩
  · omega
  · omega
  · omega
  · exact e
  all_goals omega
theorem ev_v.int {ka : ev_KA} {ads : List Nat} {x : Nat} (h : x < 4294967296) : ev_v ka ads x (.int (nI x)) := Or.inl ⟨h, rfl⟩
theorem ev_v.long {ka : ev_KA} {ads : List Nat} {n : Nat} (h : n < 18446744073709551616) : ev_v ka ads (18446744073709551616 + n) (.long (lN n)) := Or.inr (Or.inl ⟨n, h, rfl, rfl⟩)
theorem ev_v.null {ka : ev_KA} {ads : List Nat} : ev_v ka ads 55340232221128654848 .null := Or.inr (Or.inr (Or.inr (Or.inl ⟨rfl, rfl⟩)))
theorem ev_v.mono {ka : ev_KA} {ads l : List Nat} {x : Nat} {v : Value} (h : ev_v ka ads x v) : ev_v ka (ads ++ l) x v := by
  rcases h with h | h | ⟨k, q, hk, h, h1, h2⟩ | h
  · exact Or.inl h
  · exact Or.inr (Or.inl h)
  · refine Or.inr (Or.inr (Or.inl ⟨k, q, hk, h, ?_, h2⟩))
    rw [List.getElem?_append_left (List.getElem?_eq_some_iff.mp h1).1]
    exact h1
  · exact Or.inr (Or.inr (Or.inr h))
theorem ev_v.cat1 {ka : ev_KA} {ads : List Nat} {x : Nat} {v : Value} (h : ev_v ka ads x v) (hx : ev_isL x = false) : v.category = 1 := by
  have hx := ev_isL_f hx
  rcases h with ⟨h, e⟩ | ⟨n, hn, h, e⟩ | ⟨k, q, hk, h, h1, e⟩ | ⟨h, e⟩ | ⟨i, q, _, h, _, e⟩ | ⟨i, q, _, h, _, e⟩ | ⟨h, e | ⟨q, e⟩⟩
  · rw [e]; rfl
  · omega
  all_goals (rw [e]; rfl)
theorem ev_v.lt {ka : ev_KA} {ads : List Nat} {x : Nat} {v : Value} (h : ev_v ka ads x v) : x < 4722366482869645213696 := by
  rcases h with ⟨h, e⟩ | ⟨n, hn, h, e⟩ | ⟨k, q, hk, h, h1, e⟩ | ⟨h, e⟩ | ⟨i, q, _, h, _, e⟩ | ⟨i, q, _, h, _, e⟩ | ⟨h, e⟩ <;> omega
theorem ev_v.nU {ka : ev_KA} {ads : List Nat} {x : Nat} {v : Value} (h : ev_v ka ads x v) : x ≠ 73786976294838206464 := by
  rcases h with ⟨h, e⟩ | ⟨n, hn, h, e⟩ | ⟨k, q, hk, h, h1, e⟩ | ⟨h, e⟩ | ⟨i, q, _, h, _, e⟩ | ⟨i, q, _, h, _, e⟩ | ⟨h, e⟩ <;> omega
/-- the stack -/
def ev_S (ka : ev_KA) (ads : List Nat) : List Nat → List Value → Prop
  | [], [] => True
  | x :: l, v :: r => ev_v ka ads x v ∧ ev_S ka ads l r
  | _, _ => False
theorem ev_S.mono {ka : ev_KA} {ads l : List Nat} : ∀ {st : List Nat} {vs : List Value}, ev_S ka ads st vs → ev_S ka (ads ++ l) st vs
  | [], [], _ => trivial
  | _ :: _, _ :: _, h => ⟨h.1.mono, h.2.mono⟩
  | [], _ :: _, h => h.elim
  | _ :: _, [], h => h.elim
theorem ev_S.cons {ka : ev_KA} {ads : List Nat} {x : Nat} {st : List Nat} {vs : List Value} (h : ev_S ka ads (x :: st) vs) : ∃ v r, vs = v :: r ∧ ev_v ka ads x v ∧ ev_S ka ads st r := by
  cases vs with
  | nil => exact h.elim
  | cons v r => exact ⟨v, r, rfl, h.1, h.2⟩
theorem ev_S.nil {ka : ev_KA} {ads : List Nat} {vs : List Value} (h : ev_S ka ads [] vs) : vs = [] := by
  cases vs with
  | nil => rfl
  | cons v r => exact h.elim
/-- the locals -/
def ev_L (ka : ev_KA) (ads : List Nat) (nL : Nat) (L : List Nat) (ls : Array Slot) : Prop :=
  L.length = nL ∧ ∃ lv, lv_has ls nL lv ∧ ∀ i x, L[i]? = some x → x = 73786976294838206464 ∨ ∃ v, (i, v) ∈ lv ∧ ev_v ka ads x v
theorem ev_L.mono {ka : ev_KA} {ads l : List Nat} {nL : Nat} {L : List Nat} {ls : Array Slot} (h : ev_L ka ads nL L ls) : ev_L ka (ads ++ l) nL L ls := by
  obtain ⟨h1, lv, h2, h3⟩ := h
  refine ⟨h1, lv, h2, fun i x hx => ?_⟩
  rcases h3 i x hx with h | ⟨v, h4, h5⟩
  · exact Or.inl h
  · exact Or.inr ⟨v, h4, h5.mono⟩
theorem ev_L.get {ka : ev_KA} {ads : List Nat} {nL : Nat} {L : List Nat} {ls : Array Slot} (h : ev_L ka ads nL L ls) {i x : Nat} (hx : L[i]? = some x) (hU : x ≠ 73786976294838206464) : ∃ v, ls[i]? = some (.val v) ∧ ev_v ka ads x v := by
  obtain ⟨_, lv, h2, h3⟩ := h
  rcases h3 i x hx with h | ⟨v, h4, h5⟩
  · exact absurd h hU
  · exact ⟨v, h2.2.2 _ h4, h5⟩
/-- what a store of one word does to the locals -/
def ev_set1 (L : List Nat) (i x : Nat) : List Nat := match i with
  | 0 => L.set 0 x
  | j + 1 => match L[j]? with
    | some y => bif ev_isL y then (L.set j 73786976294838206464).set (j + 1) x else L.set (j + 1) x
    | none => L.set (j + 1) x
def ev_set2 (L : List Nat) (i x : Nat) : List Nat := (ev_set1 L i x).set (i + 1) 73786976294838206464
theorem ev_set1_len (L : List Nat) (i x : Nat) : (ev_set1 L i x).length = L.length := by
  unfold ev_set1
  split
  · simp
  · split
    · rename_i y _
      cases ev_isL y <;> simp
    · simp
theorem ev_set1_get {ka : ev_KA} {ads : List Nat} {nL : Nat} {L : List Nat} {ls : Array Slot} {lv : List (Nat × Value)} {i x k y : Nat} {v : Value} (hL : ∀ i x, L[i]? = some x → x = 73786976294838206464 ∨ ∃ v, (i, v) ∈ lv ∧ ev_v ka ads x v) (hk : (ev_set1 L i x)[k]? = some y) :
    (k = i ∧ y = x) ∨ y = 73786976294838206464 ∨ (k ≠ i ∧ ∃ w, (k, w) ∈ lv ∧ ev_v ka ads y w ∧ (k + 1 = i → w.category = 1)) := by
  have hgen : ∀ {k' : Nat}, k' = k → ∀ {y' : Nat}, L[k']? = some y' → y' = y → k ≠ i → (k + 1 = i → ev_isL y = false) → y = 73786976294838206464 ∨ (k ≠ i ∧ ∃ w, (k, w) ∈ lv ∧ ev_v ka ads y w ∧ (k + 1 = i → w.category = 1)) := by
    intro k' e1 y' e2 e3 hne hlong
    subst e1; subst e3
    rcases hL _ _ e2 with h | ⟨w, h4, h5⟩
    · exact Or.inl h
    · exact Or.inr ⟨hne, w, h4, h5, fun q => h5.cat1 (hlong q)⟩
  by_cases hki : k = i
  · left
    refine ⟨hki, ?_⟩
    subst hki
    unfold ev_set1 at hk
    split at hk
    · rw [List.getElem?_set] at hk
      simp at hk
      exact hk.2.symm
    · split at hk
      · rename_i y0 _
        cases hq : ev_isL y0 <;> rw [hq] at hk <;> simp only [cond_true, cond_false, List.getElem?_set] at hk <;> simp at hk <;> exact hk.2.symm
      · rw [List.getElem?_set] at hk
        simp at hk
        exact hk.2.symm
  · right
    unfold ev_set1 at hk
    split at hk
    · rw [List.getElem?_set_ne (fun q => hki q.symm)] at hk
      exact hgen rfl hk rfl hki (fun q => by omega)
    · rename_i j
      split at hk
      · rename_i y0 hy0
        cases hq : ev_isL y0 <;> rw [hq] at hk <;> simp only [cond_true, cond_false] at hk <;> rw [List.getElem?_set_ne (fun q => hki q.symm)] at hk
        · refine hgen rfl hk rfl hki (fun q => ?_)
          have : k = j := by omega
          subst this
          rw [hy0] at hk
          cases hk
          exact hq
        · by_cases hkj : k = j
          · subst hkj
            rw [List.getElem?_set] at hk
            simp at hk
            exact Or.inl hk.2.symm
          · rw [List.getElem?_set_ne (fun q => hkj q.symm)] at hk
            exact hgen rfl hk rfl hki (fun q => by omega)
      · rename_i hy0
        rw [List.getElem?_set_ne (fun q => hki q.symm)] at hk
        refine hgen rfl hk rfl hki (fun q => ?_)
        have : k = j := by omega
        subst this
        rw [hy0] at hk
        cases hk
theorem ev_L.set1 {ka : ev_KA} {ads : List Nat} {nL : Nat} {L : List Nat} {lv : List (Nat × Value)} {i x : Nat} {v : Value} {ls' : Array Slot} (hlen : L.length = nL) (hL : ∀ i x, L[i]? = some x → x = 73786976294838206464 ∨ ∃ v, (i, v) ∈ lv ∧ ev_v ka ads x v) (hv : ev_v ka ads x v)
    (h' : lv_has ls' nL ((i, v) :: lv.filter (fun q => !(q.1 == i) && !(q.1 + 1 == i && q.2.category == 2)))) : ev_L ka ads nL (ev_set1 L i x) ls' := by
  refine ⟨(ev_set1_len L i x).trans hlen, _, h', fun k y hy => ?_⟩
  rcases ev_set1_get (ls := ls') (nL := nL) (v := v) hL hy with ⟨e1, e2⟩ | h | ⟨hne, w, h4, h5, h6⟩
  · subst e1; subst e2
    exact Or.inr ⟨v, List.mem_cons_self, hv⟩
  · exact Or.inl h
  · refine Or.inr ⟨w, List.mem_cons_of_mem _ (List.mem_filter.mpr ⟨h4, ?_⟩), h5⟩
    by_cases q : k + 1 = i
    · simp [hne, q, h6 q]
    · simp [hne, q]
theorem ev_L.set2 {ka : ev_KA} {ads : List Nat} {nL : Nat} {L : List Nat} {lv : List (Nat × Value)} {i x : Nat} {v : Value} {ls' : Array Slot} (hlen : L.length = nL) (hL : ∀ i x, L[i]? = some x → x = 73786976294838206464 ∨ ∃ v, (i, v) ∈ lv ∧ ev_v ka ads x v) (hv : ev_v ka ads x v)
    (h' : lv_has ls' nL ((i, v) :: lv.filter (fun q => !(q.1 == i) && (!(q.1 == i + 1) && !(q.1 + 1 == i && q.2.category == 2))))) : ev_L ka ads nL (ev_set2 L i x) ls' := by
  refine ⟨by unfold ev_set2; rw [List.length_set]; exact (ev_set1_len L i x).trans hlen, _, h', fun k y hy => ?_⟩
  unfold ev_set2 at hy
  by_cases hk1 : k = i + 1
  · subst hk1
    rw [List.getElem?_set] at hy
    simp at hy
    exact Or.inl hy.2.symm
  · rw [List.getElem?_set_ne (fun q => hk1 q.symm)] at hy
    rcases ev_set1_get (ls := ls') (nL := nL) (v := v) hL hy with ⟨e1, e2⟩ | h | ⟨hne, w, h4, h5, h6⟩
    · subst e1; subst e2
      exact Or.inr ⟨v, List.mem_cons_self, hv⟩
    · exact Or.inl h
    · refine Or.inr ⟨w, List.mem_cons_of_mem _ (List.mem_filter.mpr ⟨h4, ?_⟩), h5⟩
      by_cases q : k + 1 = i
      · simp [hne, hk1, q, h6 q]
      · simp [hne, hk1, q]
/-! the instructions: where they lead, what they leave -/
abbrev ev_F : Type := Nat × List Nat × List Nat
def ev_ldI (d n pc : Nat) (L st : List Nat) : Option ev_F := match L[n]? with
  | some x => bif ev_isI x then some (pc + d, L, x :: st) else none
  | none => none
def ev_ldL (d n pc : Nat) (L st : List Nat) : Option ev_F := match L[n]? with
  | some x => bif ev_isL x then some (pc + d, L, x :: st) else none
  | none => none
def ev_ldR (d n pc : Nat) (L st : List Nat) : Option ev_F := match L[n]? with
  | some x => bif ev_isR x || ev_isN x then some (pc + d, L, x :: st) else none
  | none => none
def ev_stI (d n pc : Nat) (L st : List Nat) : Option ev_F := match st with
  | x :: r => bif ev_isI x && Nat.blt n L.length then some (pc + d, ev_set1 L n x, r) else none
  | [] => none
def ev_stL (d n pc : Nat) (L st : List Nat) : Option ev_F := match st with
  | x :: r => bif ev_isL x && Nat.blt (n + 1) L.length then some (pc + d, ev_set2 L n x, r) else none
  | [] => none
def ev_stR (d n pc : Nat) (L st : List Nat) : Option ev_F := match st with
  | x :: r => bif (ev_isR x || ev_isN x) && Nat.blt n L.length then some (pc + d, ev_set1 L n x, r) else none
  | [] => none
def ev_binI (pc : Nat) (L st : List Nat) (f : Nat → Nat → Nat) : Option ev_F := match st with
  | y :: x :: r => bif ev_isI y && ev_isI x then some (pc + 1, L, f x y :: r) else none
  | _ => none
def ev_binL (pc : Nat) (L st : List Nat) (f : Nat → Nat → Nat) : Option ev_F := match st with
  | y :: x :: r => bif ev_isL y && ev_isL x then some (pc + 1, L, f (x - 18446744073709551616) (y - 18446744073709551616) :: r) else none
  | _ => none
def ev_unI (pc : Nat) (L st : List Nat) (f : Nat → Nat) : Option ev_F := match st with
  | x :: r => bif ev_isI x then some (pc + 1, L, f x :: r) else none
  | _ => none
def ev_oAdd (x y : Nat) : Nat := (x + y) % 4294967296
def ev_oSub (x y : Nat) : Nat := (x + (4294967296 - y)) % 4294967296
def ev_oMul (x y : Nat) : Nat := (x * y) % 4294967296
def ev_oAnd (x y : Nat) : Nat := x &&& y
def ev_oOr (x y : Nat) : Nat := x ||| y
def ev_oXor (x y : Nat) : Nat := x ^^^ y
def ev_oUsh (x y : Nat) : Nat := x >>> (y % 32)
def ev_oNeg (x : Nat) : Nat := (4294967296 - x) % 4294967296
def ev_oI2c (x : Nat) : Nat := x % 65536
def ev_oI2l (x : Nat) : Nat := 18446744073709551616 + (bif x.blt 2147483648 then x else x + 18446744069414584320)
def ev_oAddL (x y : Nat) : Nat := 18446744073709551616 + (x + y) % 18446744073709551616
def ev_oSubL (x y : Nat) : Nat := 18446744073709551616 + (x + (18446744073709551616 - y)) % 18446744073709551616
def ev_oMulL (x y : Nat) : Nat := 18446744073709551616 + (x * y) % 18446744073709551616
def ev_oAndL (x y : Nat) : Nat := 18446744073709551616 + (x &&& y)
def ev_oXorL (x y : Nat) : Nat := 18446744073709551616 + (x ^^^ y)
def ev_oCmpL (x y : Nat) : Nat := bif (ev_sl y).blt (ev_sl x) then 1 else bif x.beq y then 0 else 4294967295
def ev_oL2i (x : Nat) : Nat := (x - 18446744073709551616) % 4294967296
def ev_oUshL (x y : Nat) : Nat := 18446744073709551616 + ((x - 18446744073709551616) >>> (y % 64))
def ev_oLc (n : Nat) : Nat := 18446744073709551616 + n
theorem ev_oAdd_v {ka : ev_KA} {ads : List Nat} (x y : Nat) : ev_v ka ads (ev_oAdd x y) (.int (nI x + nI y)) := by rw [ev_addI]; exact .int (Nat.mod_lt _ (by decide))
theorem ev_oSub_v {ka : ev_KA} {ads : List Nat} {x y : Nat} (h1 : x < 4294967296) (h2 : y < 4294967296) : ev_v ka ads (ev_oSub x y) (.int (nI x - nI y)) := by rw [ev_subI h1 h2]; exact .int (Nat.mod_lt _ (by decide))
theorem ev_oMul_v {ka : ev_KA} {ads : List Nat} (x y : Nat) : ev_v ka ads (ev_oMul x y) (.int (nI x * nI y)) := by rw [ev_mulI]; exact .int (Nat.mod_lt _ (by decide))
theorem ev_oAnd_v {ka : ev_KA} {ads : List Nat} {x y : Nat} (h1 : x < 4294967296) (h2 : y < 4294967296) : ev_v ka ads (ev_oAnd x y) (.int (nI x &&& nI y)) := by rw [ev_andI h1 h2]; exact .int (Nat.lt_of_le_of_lt Nat.and_le_left h1)
theorem ev_oOr_v {ka : ev_KA} {ads : List Nat} {x y : Nat} (h1 : x < 4294967296) (h2 : y < 4294967296) : ev_v ka ads (ev_oOr x y) (.int (nI x ||| nI y)) := by rw [ev_orI h1 h2]; exact .int (Nat.or_lt_two_pow (n := 32) h1 h2)
theorem ev_oXor_v {ka : ev_KA} {ads : List Nat} {x y : Nat} (h1 : x < 4294967296) (h2 : y < 4294967296) : ev_v ka ads (ev_oXor x y) (.int (nI x ^^^ nI y)) := by rw [ev_xorI h1 h2]; exact .int (Nat.xor_lt_two_pow (n := 32) h1 h2)
theorem ev_oUsh_v {ka : ev_KA} {ads : List Nat} {x y : Nat} (h1 : x < 4294967296) : ev_v ka ads (ev_oUsh x y) (.int (nI (x >>> (y % 32)))) := .int (Nat.lt_of_le_of_lt (Nat.shiftRight_le x _) h1)
theorem ev_oNeg_v {ka : ev_KA} {ads : List Nat} {x : Nat} (h1 : x < 4294967296) : ev_v ka ads (ev_oNeg x) (.int (-(nI x))) := by rw [ev_negI h1]; exact .int (Nat.mod_lt _ (by decide))
theorem ev_oI2c_v {ka : ev_KA} {ads : List Nat} {x : Nat} : ev_v ka ads (ev_oI2c x) (.int (nI (x % 65536))) := .int (Nat.lt_trans (Nat.mod_lt _ (by decide)) (by decide))
theorem ev_b8_lt (x : Nat) : ev_b8 x < 4294967296 := by
  unfold ev_b8
  cases (x % 256).blt 128 <;> simp only [cond_true, cond_false] <;> omega
theorem ev_b8_v {ka : ev_KA} {ads : List Nat} (x : Nat) : ev_v ka ads (ev_b8 x) (.int (nI (ev_b8 x))) := .int (ev_b8_lt x)
theorem ev_oI2l_v {ka : ev_KA} {ads : List Nat} {x : Nat} (h1 : x < 4294967296) : ev_v ka ads (ev_oI2l x) (.long (lN (bif x.blt 2147483648 then x else x + 18446744069414584320))) := by
  refine .long ?_
  cases hq : x.blt 2147483648
  · simp only [cond_false]; omega
  · simp only [cond_true]; omega
theorem ev_oAddL_v {ka : ev_KA} {ads : List Nat} (x y : Nat) : ev_v ka ads (ev_oAddL x y) (.long (lN x + lN y)) := by rw [ev_addL]; exact .long (Nat.mod_lt _ (by decide))
theorem ev_oSubL_v {ka : ev_KA} {ads : List Nat} {x y : Nat} (h1 : x < 18446744073709551616) (h2 : y < 18446744073709551616) : ev_v ka ads (ev_oSubL x y) (.long (lN x - lN y)) := by rw [ev_subL h1 h2]; exact .long (Nat.mod_lt _ (by decide))
theorem ev_oMulL_v {ka : ev_KA} {ads : List Nat} (x y : Nat) : ev_v ka ads (ev_oMulL x y) (.long (lN x * lN y)) := by rw [ev_mulL]; exact .long (Nat.mod_lt _ (by decide))
theorem ev_oAndL_v {ka : ev_KA} {ads : List Nat} {x y : Nat} (h1 : x < 18446744073709551616) (h2 : y < 18446744073709551616) : ev_v ka ads (ev_oAndL x y) (.long (lN x &&& lN y)) := by rw [ev_andL h1 h2]; exact .long (Nat.lt_of_le_of_lt Nat.and_le_left h1)
theorem ev_oXorL_v {ka : ev_KA} {ads : List Nat} {x y : Nat} (h1 : x < 18446744073709551616) (h2 : y < 18446744073709551616) : ev_v ka ads (ev_oXorL x y) (.long (lN x ^^^ lN y)) := by rw [ev_xorL h1 h2]; exact .long (Nat.xor_lt_two_pow (n := 64) h1 h2)
theorem ev_oCmpL_v {ka : ev_KA} {ads : List Nat} {x y : Nat} (h1 : x < 18446744073709551616) (h2 : y < 18446744073709551616) : ev_v ka ads (ev_oCmpL x y) (.int (lg_cmp (lN x) (lN y))) := by
  rw [ev_cmpL h1 h2]
  refine .int ?_
  unfold ev_oCmpL
  cases (ev_sl y).blt (ev_sl x) <;> cases x.beq y <;> decide
theorem ev_oL2i_v {ka : ev_KA} {ads : List Nat} (x : Nat) : ev_v ka ads (ev_oL2i x) (.int (nI ((x - 18446744073709551616) % 4294967296))) := .int (Nat.mod_lt _ (by decide))
theorem ev_oUshL_v {ka : ev_KA} {ads : List Nat} {x y : Nat} (h1 : x - 18446744073709551616 < 18446744073709551616) : ev_v ka ads (ev_oUshL x y) (.long (lN ((x - 18446744073709551616) >>> (y % 64)))) := .long (Nat.lt_of_le_of_lt (Nat.shiftRight_le _ _) h1)
theorem ev_oLc_v {ka : ev_KA} {ads : List Nat} (n : Fin 2) : ev_v ka ads (ev_oLc n.val) (.long (lN n.val)) := .long (Nat.lt_trans n.isLt (by decide))
def ev_pI (x : Nat) (pc a : Nat) (L r : List Nat) (b : Bool) : Option ev_F := bif ev_isI x then some (bif b then a else pc + 3, L, r) else none
def ev_if (c : Jvm.ClassFile.Cond) (x : Nat) : Bool := match c with
  | .eq => Nat.beq x 0
  | .ne => !(Nat.beq x 0)
  | .lt => Nat.blt (ev_s x) 2147483648
  | .ge => Nat.ble 2147483648 (ev_s x)
  | .gt => Nat.blt 2147483648 (ev_s x)
  | .le => Nat.ble (ev_s x) 2147483648
def ev_ic (c : Jvm.ClassFile.Cond) (x y : Nat) : Bool := match c with
  | .eq => Nat.beq x y
  | .ne => !(Nat.beq x y)
  | .lt => Nat.blt (ev_s x) (ev_s y)
  | .ge => Nat.ble (ev_s y) (ev_s x)
  | .gt => Nat.blt (ev_s y) (ev_s x)
  | .le => Nat.ble (ev_s x) (ev_s y)
/-- a constant that an instruction brings, as a signed number of 32 bits -/
def ev_cst (n : Int) : Nat := (n % 4294967296).toNat
/-- an int as a signed number -/
def ev_si (x : Nat) : Int := (ev_s x : Int) - 2147483648
theorem ev_toS {x : Nat} (hx : x < 4294967296) : (nI x).toInt = ev_si x := ev_toI hx
def ev_sw (pc : Nat) (off : Int) (L r : List Nat) : Option ev_F := bif decide (0 ≤ (pc : Int) + off) then some (((pc : Int) + off).toNat, L, r) else none
def ev_ts2 (z dflt lo hi : Int) (offs : Array Int) (pc : Nat) (L r : List Nat) : Option ev_F :=
  bif decide (z < lo) || decide (hi < z) then ev_sw pc dflt L r
  else match offs[(z - lo).toNat]? with
    | some off => ev_sw pc off L r
    | none => none
def ev_ts (dflt lo hi : Int) (offs : Array Int) (pc : Nat) (L st : List Nat) : Option ev_F := match st with
  | x :: r => bif ev_isI x then ev_ts2 (ev_si x) dflt lo hi offs pc L r else none
  | [] => none
def ev_stA (i : Instr) (a pc : Nat) (L st : List Nat) : Option ev_F := match i with
  | .iload n => ev_ldI 2 n pc L st
  | .iload_n k => ev_ldI 1 k.val pc L st
  | .lload n => ev_ldL 2 n pc L st
  | .lload_n k => ev_ldL 1 k.val pc L st
  | .aload n => ev_ldR 2 n pc L st
  | .aload_n k => ev_ldR 1 k.val pc L st
  | .istore n => ev_stI 2 n pc L st
  | .istore_n k => ev_stI 1 k.val pc L st
  | .lstore n => ev_stL 2 n pc L st
  | .lstore_n k => ev_stL 1 k.val pc L st
  | .astore n => ev_stR 2 n pc L st
  | .astore_n k => ev_stR 1 k.val pc L st
  | .iconst n => bif decide (Int32.ofInt n = nI a) && ev_isI a then some (pc + 1, L, a :: st) else none
  | .bipush n => bif decide ((Int8.ofInt n).toInt32 = nI a) && ev_isI a then some (pc + 2, L, a :: st) else none
  | .sipush n => bif decide ((Int16.ofInt n).toInt32 = nI a) && ev_isI a then some (pc + 3, L, a :: st) else none
  | .lconst n => some (pc + 1, L, ev_oLc n.val :: st)
  | .iadd => ev_binI pc L st ev_oAdd
  | .isub => ev_binI pc L st ev_oSub
  | .imul => ev_binI pc L st ev_oMul
  | .iand => ev_binI pc L st ev_oAnd
  | .ior => ev_binI pc L st ev_oOr
  | .ixor => ev_binI pc L st ev_oXor
  | .iushr => ev_binI pc L st ev_oUsh
  | .ineg => ev_unI pc L st ev_oNeg
  | .i2b => ev_unI pc L st ev_b8
  | .i2c => ev_unI pc L st ev_oI2c
  | .i2l => ev_unI pc L st ev_oI2l
  | .l2i => match st with
    | x :: r => bif ev_isL x then some (pc + 1, L, ev_oL2i x :: r) else none
    | _ => none
  | .ladd => ev_binL pc L st ev_oAddL
  | .lsub => ev_binL pc L st ev_oSubL
  | .lmul => ev_binL pc L st ev_oMulL
  | .land => ev_binL pc L st ev_oAndL
  | .lxor => ev_binL pc L st ev_oXorL
  | .lcmp => ev_binL pc L st ev_oCmpL
  | .lushr => match st with
    | y :: x :: r => bif ev_isI y && ev_isL x then some (pc + 1, L, ev_oUshL x y :: r) else none
    | _ => none
  | .dup => match st with
    | x :: r => bif ev_isL x then none else some (pc + 1, L, x :: x :: r)
    | _ => none
  | .dup_x1 => match st with
    | x :: y :: r => bif ev_isL x || ev_isL y then none else some (pc + 1, L, x :: y :: x :: r)
    | _ => none
  | .dup2 => match st with
    | x :: r => bif ev_isL x then some (pc + 1, L, x :: x :: r) else match r with
      | y :: r2 => bif ev_isL y then none else some (pc + 1, L, x :: y :: x :: y :: r2)
      | [] => none
    | _ => none
  | .pop => match st with
    | x :: r => bif ev_isL x then none else some (pc + 1, L, r)
    | _ => none
  | .iinc n k => match L[n]? with
    | some x => bif ev_isI x && Nat.blt n L.length && decide (nI a = Int32.ofInt k) then some (pc + 3, ev_set1 L n (ev_oAdd x a), st) else none
    | none => none
  | .goto off => bif decide ((pc : Int) + off = (a : Int)) then some (a, L, st) else none
  | .ifCond c off => match st with
    | x :: r => bif decide ((pc : Int) + off = (a : Int)) then ev_pI x pc a L r (ev_if c x) else none
    | _ => none
  | .if_icmp c off => match st with
    | y :: x :: r => bif decide ((pc : Int) + off = (a : Int)) && ev_isI y then ev_pI x pc a L r (ev_ic c x y) else none
    | _ => none
  | .ifnull off => match st with
    | x :: r => bif decide ((pc : Int) + off = (a : Int)) then (bif ev_isN x then some (a, L, r) else bif ev_isR x then some (pc + 3, L, r) else none) else none
    | _ => none
  | .ifnonnull off => match st with
    | x :: r => bif decide ((pc : Int) + off = (a : Int)) then (bif ev_isR x then some (a, L, r) else bif ev_isN x then some (pc + 3, L, r) else none) else none
    | _ => none
  | .tableswitch dflt lo hi offs => ev_ts dflt lo hi offs pc L st
  | _ => none
