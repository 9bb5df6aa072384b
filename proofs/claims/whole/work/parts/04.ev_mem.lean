/-! ===== 04: the evaluator's cells; the instructions that read and write them ===== -/
def ev_ty (oc : String) (t : Nat) : FieldType := match t with
  | 0 => .int
  | 1 => .byte
  | 2 => .boolean
  | 3 => .char
  | 10 => .long
  | _ => .object oc
/-- a cell of kind below 1000 is an object of that class; 1000 + t an array of ints, bytes, booleans, chars; 1010 of longs; 1020 of references (0: null) -/
def ev_E (ka : ev_KA) (oc : String) (tys : List (ClassId × FieldType)) (ads : List Nat) (x : ev_C) (e : va_E) : Prop :=
  (x.1 < 1000 ∧ ∃ fs : List Value, e = .inr (x.1, fs) ∧ fs.length = x.2.1 ∧ ∀ j, j < x.2.1 → ∃ v, fs[j]? = some v ∧ ev_v ka ads (ev_at x.2.2 j) v) ∨
  (1000 ≤ x.1 ∧ x.1 < 1010 ∧ ∃ (t0 : Nat) (cA : ClassId) (f : Nat → Int32), tys[t0]? = some (cA, ev_ty oc (x.1 - 1000)) ∧ e = .inl (cA, x.2.1, .inl f) ∧ ∀ j, j < x.2.1 → ev_at x.2.2 j < 4294967296 ∧ f j = nI (ev_at x.2.2 j)) ∨
  (x.1 = 1010 ∧ ∃ (t0 : Nat) (cA : ClassId) (f : Nat → Int64), tys[t0]? = some (cA, .long) ∧ e = .inl (cA, x.2.1, .inr (.inl f)) ∧ ∀ j, j < x.2.1 → ev_at x.2.2 j < 18446744073709551616 ∧ f j = lN (ev_at x.2.2 j)) ∨
  (x.1 = 1020 ∧ ∃ (t0 : Nat) (cA : ClassId) (f : Nat → Option Nat), tys[t0]? = some (cA, .object oc) ∧ e = .inl (cA, x.2.1, .inr (.inr (.inr (.inr f)))) ∧ ∀ j, j < x.2.1 → (ev_at x.2.2 j = 0 ∧ f j = none) ∨ (ev_isR (ev_at x.2.2 j) = true ∧ ev_v ka ads (ev_at x.2.2 j) (va_rf (f j))))
theorem ev_E.mono {ka : ev_KA} {oc : String} {tys t2 : List (ClassId × FieldType)} {ads l : List Nat} {x : ev_C} {e : va_E} (h : ev_E ka oc tys ads x e) : ev_E ka oc (tys ++ t2) (ads ++ l) x e := by
  have up : ∀ {t0 : Nat} {q : ClassId × FieldType}, tys[t0]? = some q → (tys ++ t2)[t0]? = some q := fun {t0 q} h => by
    rw [List.getElem?_append_left (List.getElem?_eq_some_iff.mp h).1]; exact h
  rcases h with ⟨h0, fs, h1, h2, h3⟩ | ⟨h0, h0', t0, cA, f, h1, h2, h3⟩ | ⟨h0, t0, cA, f, h1, h2, h3⟩ | ⟨h0, t0, cA, f, h1, h2, h3⟩
  · refine Or.inl ⟨h0, fs, h1, h2, fun j hj => ?_⟩
    obtain ⟨v, h4, h5⟩ := h3 j hj
    exact ⟨v, h4, h5.mono⟩
  · exact Or.inr (Or.inl ⟨h0, h0', t0, cA, f, up h1, h2, h3⟩)
  · exact Or.inr (Or.inr (Or.inl ⟨h0, t0, cA, f, up h1, h2, h3⟩))
  · refine Or.inr (Or.inr (Or.inr ⟨h0, t0, cA, f, up h1, h2, fun j hj => ?_⟩))
    rcases h3 j hj with h | ⟨h, h'⟩
    · exact Or.inl h
    · exact Or.inr ⟨h, h'.mono⟩
def ev_M (ka : ev_KA) (oc : String) (tys : List (ClassId × FieldType)) (ads : List Nat) (h : ev_H) (ws : va_W) : Prop :=
  ads.length = h.length ∧ ws.length = h.length ∧ ∀ (k : Nat) (x : ev_C), h[k]? = some x → ∃ (q : Nat) (e : va_E), ads[k]? = some q ∧ ws[k]? = some (q, e) ∧ ev_E ka oc tys ads x e
theorem ev_M.set {ka : ev_KA} {oc : String} {tys : List (ClassId × FieldType)} {ads : List Nat} {h : ev_H} {ws : va_W} {k q : Nat} {x x' : ev_C} {e' : va_E} (hM : ev_M ka oc tys ads h ws) (hk : h[k]? = some x) (hq : ads[k]? = some q) (hE : ev_E ka oc tys ads x' e') : ev_M ka oc tys ads (h.set k x') (ws.set k (q, e')) := by
  obtain ⟨h1, h2, h3⟩ := hM
  have hlt : k < h.length := (List.getElem?_eq_some_iff.mp hk).1
  refine ⟨by rw [List.length_set]; exact h1, by rw [List.length_set, List.length_set]; exact h2, fun j y hy => ?_⟩
  by_cases hj : k = j
  · subst hj
    rw [List.getElem?_set_self hlt] at hy
    cases hy
    exact ⟨q, e', hq, List.getElem?_set_self (h2 ▸ hlt), hE⟩
  · rw [List.getElem?_set_ne hj] at hy
    obtain ⟨q2, e2, g1, g2, g3⟩ := h3 j y hy
    exact ⟨q2, e2, g1, by rw [List.getElem?_set_ne hj]; exact g2, g3⟩
theorem ev_M.push {ka : ev_KA} {oc : String} {tys t2 : List (ClassId × FieldType)} {ads : List Nat} {h : ev_H} {ws : va_W} {q : Nat} {x : ev_C} {e : va_E} (hM : ev_M ka oc tys ads h ws) (hE : ev_E ka oc (tys ++ t2) (ads ++ [q]) x e) : ev_M ka oc (tys ++ t2) (ads ++ [q]) (h ++ [x]) (ws ++ [(q, e)]) := by
  obtain ⟨h1, h2, h3⟩ := hM
  refine ⟨by simp [h1], by simp [h2], fun j y hy => ?_⟩
  by_cases hj : j < h.length
  · rw [List.getElem?_append_left hj] at hy
    obtain ⟨q2, e2, g1, g2, g3⟩ := h3 j y hy
    exact ⟨q2, e2, by rw [List.getElem?_append_left (h1 ▸ hj)]; exact g1, by rw [List.getElem?_append_left (h2 ▸ hj)]; exact g2, g3.mono⟩
  · have hlt := (List.getElem?_eq_some_iff.mp hy).1
    simp at hlt
    have hj2 : j = h.length := by omega
    subst hj2
    simp at hy
    subst hy
    exact ⟨q, e, by rw [← h1]; simp, by rw [← h2]; simp, hE⟩
/-- what the object at a reference holds -/
def ev_o (h : ev_H) (r : Nat) : Option ev_C := bif ev_isR r then h[r - 36893488147419103232]? else none
theorem ev_M.o {ka : ev_KA} {oc : String} {tys : List (ClassId × FieldType)} {ads : List Nat} {h : ev_H} {ws : va_W} {r : Nat} {x : ev_C} {v : Value} (hM : ev_M ka oc tys ads h ws) (ho : ev_o h r = some x) (hv : ev_v ka ads r v) : ∃ q e, h[r - 36893488147419103232]? = some x ∧ v = .ref q ∧ ads[r - 36893488147419103232]? = some q ∧ ws[r - 36893488147419103232]? = some (q, e) ∧ ev_E ka oc tys ads x e := by
  unfold ev_o at ho
  cases hr : ev_isR r
  · rw [hr] at ho; cases ho
  · rw [hr] at ho
    simp only [cond_true] at ho
    obtain ⟨q, e, h1, h2, h3⟩ := hM.2.2 _ _ ho
    obtain ⟨q2, h4, h5⟩ := hv.r hr
    rw [h1] at h4
    cases h4
    exact ⟨q, e, ho, h5, h1, h2, h3⟩
/-- may a field of this type take the value? -/
def ev_fit (t v : Nat) : Bool := match t with
  | 0 => ev_isI v
  | 1 => ev_isI v && Nat.beq (ev_b8 v) v
  | 2 => Nat.blt v 2
  | 10 => ev_isL v
  | 20 => ev_isR v || ev_isN v
  | _ => false
def ev_tyc (ty : FieldType) : Nat := match ty with
  | .int => 0
  | .byte => 1
  | .boolean => 2
  | .long => 10
  | .object _ => 20
  | .array _ => 20
  | _ => 99
theorem ev_fits8 : ∀ k, k < 256 → fits .byte (.int (nI (ev_b8 k))) = true := by decide +kernel
theorem ev_b8_mod (x : Nat) : ev_b8 x = ev_b8 (x % 256) := by unfold ev_b8; rw [Nat.mod_mod]
theorem ev_fit_ok {ka : ev_KA} {ads : List Nat} {t x : Nat} {v : Value} {ty : FieldType} (h : ev_fit t x = true) (ht : ev_tyc ty = t) (hv : ev_v ka ads x v) : narrow ty v = v ∧ fits ty v = true := by
  subst ht
  cases ty <;> simp only [ev_tyc, ev_fit] at h
  all_goals first
    | (cases h; done)
    | skip
  all_goals first
    | (obtain ⟨rfl, _⟩ := hv.i h; exact ⟨rfl, rfl⟩)
    | (obtain ⟨rfl, _⟩ := hv.l h; exact ⟨rfl, rfl⟩)
    | (rw [Bool.or_eq_true] at h
       rcases h with h | h
       · obtain ⟨q, _, rfl⟩ := hv.r h; exact ⟨rfl, rfl⟩
       · obtain rfl := hv.n h; exact ⟨rfl, rfl⟩)
    | (simp only [Bool.and_eq_true] at h
       obtain ⟨h1, h2⟩ := h
       obtain ⟨rfl, hx⟩ := hv.i h1
       have h2 := Nat.eq_of_beq_eq_true h2
       have e1 : (nI x).toInt8.toInt32 = nI x := by rw [ev_i2b hx]; show nI (ev_b8 x) = _; rw [h2]
       refine ⟨by show Value.int _ = _; rw [e1], ?_⟩
       rw [← h2, ev_b8_mod]
       exact ev_fits8 _ (Nat.mod_lt _ (by decide)))
    | (have h1 := Nat.blt_eq.mp h
       obtain ⟨rfl, _⟩ := hv.i (show ev_isI x = true from Nat.blt_eq.mpr (by omega))
       rcases (show x = 0 ∨ x = 1 by omega) with rfl | rfl
       · exact ⟨rfl, rfl⟩
       · exact ⟨rfl, rfl⟩)
/-- an array's place -/
def ev_ix (k : Nat) (h : ev_H) (j r : Nat) : Option Nat := match ev_o h r with
  | some x => bif Nat.beq x.1 k && ev_isI j && Nat.blt j x.2.1 && Nat.blt x.2.1 2147483648 then some (ev_at x.2.2 j) else none
  | none => none
/-- a cell's contents changed at a place -/
def ev_wr (k nr : Nat) (h : ev_H) (j r v : Nat) : Option ev_H := match ev_o h r with
  | some x => bif Nat.beq x.1 k && ev_isI j && Nat.blt j x.2.1 && Nat.blt x.2.1 2147483648 && Nat.ble nr (r - 36893488147419103232) then some (h.set (r - 36893488147419103232) (x.1, x.2.1, ev_up x.2.2 j v)) else none
  | none => none
abbrev ev_G : Type := ev_F × ev_H × Nat × Nat
def ev_rdI (k pc : Nat) (L st : List Nat) (h : ev_H) (nc ns : Nat) : Option ev_G := match st with
  | j :: r :: st' => match ev_ix k h j r with
    | some v => some ((pc + 1, L, v :: st'), h, nc, ns)
    | none => none
  | _ => none
/-- a row of booleans on the top? -/
def ev_isZ (h : ev_H) (st : List Nat) : Bool := match st with
  | r :: _ => (match ev_o h r with
    | some x => Nat.beq x.1 1002
    | none => false)
  | [] => false
def ev_stH (nr : Nat) (dfl : Nat → Nat) (i : Instr) (a b t pc : Nat) (L st : List Nat) (h : ev_H) (nc ns : Nat) : Option ev_G := match i with
  | .getfield _ => match st with
    | r :: st' => match ev_o h r with
      | some x => bif Nat.beq x.1 a && Nat.blt b x.2.1 then some ((pc + 3, L, ev_at x.2.2 b :: st'), h, nc, ns) else none
      | none => none
    | _ => none
  | .putfield _ => match st with
    | v :: r :: st' => match ev_o h r with
      | some x => bif Nat.beq x.1 a && Nat.blt b x.2.1 && Nat.ble nr (r - 36893488147419103232) && ev_fit t v then some ((pc + 3, L, st'), h.set (r - 36893488147419103232) (x.1, x.2.1, ev_up x.2.2 b v), nc, ns) else none
      | none => none
    | _ => none
  | .iaload => ev_rdI 1000 pc L st h nc ns
  | .baload => bif ev_isZ h st.tail then ev_rdI 1002 pc L st h nc ns else ev_rdI 1001 pc L st h nc ns
  | .caload => ev_rdI 1003 pc L st h nc ns
  | .laload => match st with
    | j :: r :: st' => match ev_ix 1010 h j r with
      | some v => some ((pc + 1, L, (18446744073709551616 + v) :: st'), h, nc, ns)
      | none => none
    | _ => none
  | .aaload => match st with
    | j :: r :: st' => match ev_ix 1020 h j r with
      | some v => some ((pc + 1, L, (bif Nat.beq v 0 then 55340232221128654848 else v) :: st'), h, nc, ns)
      | none => none
    | _ => none
  | .iastore => match st with
    | v :: j :: r :: st' => bif ev_isI v then (match ev_wr 1000 nr h j r v with
      | some h' => some ((pc + 1, L, st'), h', nc, ns)
      | none => none) else none
    | _ => none
  | .bastore => match st with
    | v :: j :: r :: st' => bif ev_isZ h (r :: st') then
        (bif Nat.blt v 2 then (match ev_wr 1002 nr h j r v with
        | some h' => some ((pc + 1, L, st'), h', nc, ns)
        | none => none) else none)
        else bif ev_isI v then (match ev_wr 1001 nr h j r (ev_b8 v) with
        | some h' => some ((pc + 1, L, st'), h', nc, ns)
        | none => none) else none
    | _ => none
  | .lastore => match st with
    | v :: j :: r :: st' => bif ev_isL v then (match ev_wr 1010 nr h j r (v - 18446744073709551616) with
      | some h' => some ((pc + 1, L, st'), h', nc, ns)
      | none => none) else none
    | _ => none
  | .arraylength => match st with
    | r :: st' => match ev_o h r with
      | some x => bif Nat.ble 1000 x.1 && ev_isI x.2.1 then some ((pc + 1, L, x.2.1 :: st'), h, nc, ns) else none
      | none => none
    | _ => none
  | .newarray _ => match st with
    | n :: st' => bif Nat.ble n 67108864 && Nat.blt h.length 1000000 then some ((pc + 2, L, (36893488147419103232 + h.length) :: st'), h ++ [(1000 + a, n, 0)], nc + 1, ns + n) else none
    | _ => none
  | .anewarray _ => none
  | .new _ => bif Nat.blt h.length 1000000 then some ((pc + 3, L, (36893488147419103232 + h.length) :: st), h ++ [(a, b, dfl a)], nc + 1, ns + b) else none
  | .ldc _ => bif ev_isI a then some ((pc + 2, L, a :: st), h, nc, ns) else none
  | .ldc_w _ => bif ev_isI a then some ((pc + 3, L, a :: st), h, nc, ns) else none
  | .ldc2_w _ => bif Nat.blt a 18446744073709551616 then some ((pc + 3, L, (18446744073709551616 + a) :: st), h, nc, ns) else none
  | _ => match ev_stA i a pc L st with
    | some f => some (f, h, nc, ns)
    | none => none
