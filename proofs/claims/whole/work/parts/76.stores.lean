/-! ===== 76: stores of strings: the last one of a sort; what a store holds (wip/whole2/76.txt) ===== -/
theorem gd_lt {α : Type} {l : List α} {d : α} {i : Nat} (h : i < l.length) : l.getD i d = l[i] := by
  show (l[i]?).getD d = _
  rw [List.getElem?_eq_getElem h]
  rfl
theorem gd_app {α : Type} {l r : List α} {d : α} {i : Nat} (h : i < l.length) : (l ++ r).getD i d = l.getD i d := by
  show ((l ++ r)[i]?).getD d = (l[i]?).getD d
  rw [List.getElem?_append_left h]
theorem gd_last {α : Type} (l : List α) (b d : α) : (l ++ [b]).getD l.length d = b := by
  show ((l ++ [b])[l.length]?).getD d = b
  rw [List.getElem?_append_right (Nat.le_refl _), Nat.sub_self]
  rfl
theorem wd_slt {x y : Nat} (hx : x < 2147483648) (hy : y < 2147483648) : (ev_s x < ev_s y) ↔ x < y := by
  unfold ev_s
  omega
theorem wd_sltN {x y : Nat} (hx : 2147483648 ≤ x) (hx2 : x < 4294967296) (hy : y < 2147483648) : ev_s x < ev_s y := by
  unfold ev_s
  omega
theorem wd_sub1 {x : Nat} (h : 0 < x) (h2 : x < 4294967296) : (x + (4294967296 - 1)) % 4294967296 = x - 1 := by omega
/-- the last number below m that q takes -/
def lx_lst (q : Nat → Bool) : Nat → Option Nat
  | 0 => none
  | m + 1 => bif q m then some m else lx_lst q m
theorem lx_lst_t {q : Nat → Bool} {m : Nat} (h : q m = true) : lx_lst q (m + 1) = some m := by
  show (bif q m then some m else lx_lst q m) = _
  rw [h, cond_true]
theorem lx_lst_f {q : Nat → Bool} {m : Nat} (h : q m = false) : lx_lst q (m + 1) = lx_lst q m := by
  show (bif q m then some m else lx_lst q m) = _
  rw [h, cond_false]
theorem lx_lst_some {q : Nat → Bool} : ∀ {m s : Nat}, lx_lst q m = some s → s < m ∧ q s = true
  | 0, s, h => by cases h
  | m + 1, s, h => by
    cases hq : q m
    · rw [lx_lst_f hq] at h
      have := lx_lst_some h
      exact ⟨by omega, this.2⟩
    · rw [lx_lst_t hq] at h
      cases h
      exact ⟨Nat.lt_succ_self _, hq⟩
theorem lx_lst_none {q : Nat → Bool} : ∀ {m : Nat}, lx_lst q m = none → ∀ t, t < m → q t = false
  | 0, _, t, ht => absurd ht (by omega)
  | m + 1, h, t, ht => by
    cases hq : q m
    · rw [lx_lst_f hq] at h
      by_cases e : t = m
      · rw [e]; exact hq
      · exact lx_lst_none h t (by omega)
    · rw [lx_lst_t hq] at h
      cases h
theorem lx_lst_no {q : Nat → Bool} : ∀ {m : Nat}, (∀ t, t < m → q t = false) → lx_lst q m = none
  | 0, _ => rfl
  | m + 1, h => by
    rw [lx_lst_f (h m (Nat.lt_succ_self _))]
    exact lx_lst_no (fun t ht => h t (by omega))
theorem lx_lst_ext {p q : Nat → Bool} : ∀ {m : Nat}, (∀ t, t < m → p t = q t) → lx_lst p m = lx_lst q m
  | 0, _ => rfl
  | m + 1, h => by
    show (bif p m then some m else lx_lst p m) = (bif q m then some m else lx_lst q m)
    rw [h m (Nat.lt_succ_self _), lx_lst_ext (fun t ht => h t (by omega))]
/-- one that takes less: by the other's last one -/
theorem lx_lst_n {p q : Nat → Bool} (hpq : ∀ t, p t = true → q t = true) {m : Nat} (h : lx_lst q m = none) : lx_lst p m = none := lx_lst_no (fun t ht => by
  cases hp : p t
  · rfl
  · have := lx_lst_none h t ht
    rw [hpq t hp] at this
    cases this)
theorem lx_lst_sub {p q : Nat → Bool} (hpq : ∀ t, p t = true → q t = true) : ∀ {m s : Nat}, lx_lst q m = some s → lx_lst p m = (bif p s then some s else lx_lst p s)
  | 0, s, h => by cases h
  | m + 1, s, h => by
    cases hq : q m
    · rw [lx_lst_f hq] at h
      have hp : p m = false := by
        cases hp : p m
        · rfl
        · rw [hpq m hp] at hq; cases hq
      rw [lx_lst_f hp]
      exact lx_lst_sub hpq h
    · rw [lx_lst_t hq] at h
      cases h
      rfl
/-- how the reference and the class write it down -/
def enR (o : Option Nat) : Nat := match o with
  | none => 4294967295
  | some s => s
def enX (o : Option Nat) : Nat := match o with
  | none => 0
  | some s => s + 1
/-- where a string begins -/
def st_off (ls : List (List Nat)) : Nat → Nat
  | 0 => 0
  | s + 1 => st_off ls s + (ls.getD s []).length
theorem st_off_app (ls : List (List Nat)) (b : List Nat) : ∀ {s : Nat}, s ≤ ls.length → st_off (ls ++ [b]) s = st_off ls s
  | 0, _ => rfl
  | s + 1, h => by
    show st_off (ls ++ [b]) s + ((ls ++ [b]).getD s []).length = st_off ls s + (ls.getD s []).length
    rw [st_off_app ls b (by omega), gd_app (by omega)]
theorem st_off_mono (ls : List (List Nat)) : ∀ {s t : Nat}, s ≤ t → st_off ls s ≤ st_off ls t
  | s, 0, h => by
    have : s = 0 := by omega
    rw [this]
    exact Nat.le_refl _
  | s, t + 1, h => by
    by_cases e : s = t + 1
    · rw [e]; exact Nat.le_refl _
    · exact Nat.le_trans (st_off_mono ls (show s ≤ t by omega)) (Nat.le_add_right _ _)
theorem st_off_in (ls : List (List Nat)) {s k : Nat} (hs : s < ls.length) (hk : k < (ls.getD s []).length) : st_off ls s + k < st_off ls ls.length := by
  have h1 : st_off ls (s + 1) ≤ st_off ls ls.length := st_off_mono ls (by omega)
  have h2 : st_off ls (s + 1) = st_off ls s + (ls.getD s []).length := rfl
  omega
theorem st_getD_last (ls : List (List Nat)) (b : List Nat) : (ls ++ [b]).getD ls.length [] = b := gd_last _ _ _
theorem st_getD_app (ls : List (List Nat)) (b : List Nat) {s : Nat} (h : s < ls.length) : (ls ++ [b]).getD s [] = ls.getD s [] := gd_app h
/-- which of the strings a row is -/
def st_ix (ls : List (List Nat)) (b : List Nat) : Option Nat := lx_lst (fun t => decide (ls.getD t [] = b)) ls.length
/-- the hashes -/
def rh_go : List Nat → Nat → Nat
  | [], h => h
  | c :: l, h => rh_go l ((ev_oMul 31 h + c) % 4294967296)
def rh (l : List Nat) : Nat := ev_oAnd (ev_oXor (rh_go l l.length) (ev_oUsh (rh_go l l.length) 10)) 1023
def xh_go : List Nat → Nat → Nat
  | [], h => h
  | c :: l, h => xh_go l ((ev_oMul h 31 + c) % 4294967296)
def xh (l : List Nat) : Nat := ev_oAnd (ev_oXor (ev_oXor (xh_go l l.length) (ev_oUsh (xh_go l l.length) 10)) (ev_oUsh (xh_go l l.length) 20)) 1023
theorem rh_lt (l : List Nat) : rh l < 1024 := Nat.lt_of_le_of_lt Nat.and_le_right (by decide)
theorem xh_lt (l : List Nat) : xh l < 1024 := Nat.lt_of_le_of_lt Nat.and_le_right (by decide)
/-- strings in a store with a hash: their places, their bytes, the chains; no two the same -/
def st_ok (hs : List Nat → Nat) (en : Option Nat → Nat) (pool at_ long next heads : Nat → Nat) (ls : List (List Nat)) : Prop :=
  (∀ s, s < ls.length → at_ s = st_off ls s ∧ long s = (ls.getD s []).length) ∧
  (∀ s k, s < ls.length → k < (ls.getD s []).length → pool (st_off ls s + k) = (ls.getD s []).getD k 0) ∧
  (∀ h, h < 1024 → heads h = en (lx_lst (fun t => hs (ls.getD t []) == h) ls.length)) ∧
  (∀ s, s < ls.length → next s = en (lx_lst (fun t => hs (ls.getD t []) == hs (ls.getD s [])) s)) ∧
  (∀ s t, s < t → t < ls.length → ls.getD s [] ≠ ls.getD t [])
/-- one string more -/
theorem st_ok_add {hs : List Nat → Nat} {en : Option Nat → Nat} {pool at_ long next heads pool' at' long' next' heads' : Nat → Nat} {ls : List (List Nat)} {b : List Nat} (h : st_ok hs en pool at_ long next heads ls) (hn : st_ix ls b = none)
    (h1 : at' ls.length = st_off ls ls.length ∧ long' ls.length = b.length) (h1' : ∀ s, s < ls.length → at' s = at_ s ∧ long' s = long s)
    (h2 : ∀ k, k < b.length → pool' (st_off ls ls.length + k) = b.getD k 0) (h2' : ∀ j, j < st_off ls ls.length → pool' j = pool j)
    (h3 : heads' (hs b) = en (some ls.length)) (h3' : ∀ j, j ≠ hs b → heads' j = heads j) (hb : hs b < 1024)
    (h4 : next' ls.length = heads (hs b)) (h4' : ∀ s, s < ls.length → next' s = next s) :
    st_ok hs en pool' at' long' next' heads' (ls ++ [b]) := by
  obtain ⟨a1, a2, a3, a4, a5⟩ := h
  have hlen : (ls ++ [b]).length = ls.length + 1 := by rw [List.length_append]; rfl
  refine ⟨?_, ?_, ?_, ?_, ?_⟩
  · intro s hs'
    by_cases e : s = ls.length
    · subst e
      rw [st_off_app ls b (Nat.le_refl _), st_getD_last]
      exact h1
    · have hl : s < ls.length := by omega
      rw [st_off_app ls b (by omega), st_getD_app ls b hl, (h1' s hl).1, (h1' s hl).2]
      exact a1 s hl
  · intro s k hs' hk
    by_cases e : s = ls.length
    · subst e
      rw [st_getD_last] at hk ⊢
      rw [st_off_app ls b (Nat.le_refl _)]
      exact h2 k hk
    · have hl : s < ls.length := by omega
      rw [st_getD_app ls b hl] at hk ⊢
      rw [st_off_app ls b (by omega), h2' _ (st_off_in ls hl hk)]
      exact a2 s k hl hk
  · intro j hj
    rw [hlen]
    by_cases e : j = hs b
    · subst e
      rw [h3, lx_lst_t (by rw [st_getD_last]; exact beq_self_eq_true _)]
    · rw [h3' j e, lx_lst_f (by rw [st_getD_last]; exact beq_eq_false_iff_ne.mpr (fun q => e q.symm)), a3 j hj]
      congr 1
      exact lx_lst_ext (fun t ht => by rw [st_getD_app ls b ht])
  · intro s hs'
    by_cases e : s = ls.length
    · subst e
      rw [h4, a3 _ hb, st_getD_last]
      congr 1
      exact lx_lst_ext (fun t ht => by rw [st_getD_app ls b ht])
    · have hl : s < ls.length := by omega
      rw [h4' s hl, a4 s hl, st_getD_app ls b hl]
      congr 1
      exact lx_lst_ext (fun t ht => by rw [st_getD_app ls b (by omega)])
  · intro s t hst ht
    by_cases e : t = ls.length
    · subst e
      rw [st_getD_last, st_getD_app ls b hst]
      have := lx_lst_none hn s hst
      intro q
      rw [q, decide_eq_true rfl] at this
      cases this
    · rw [st_getD_app ls b (by omega), st_getD_app ls b (by omega)]
      exact a5 s t hst (by omega)
/-- strings from a number on taken away -/
theorem st_ok_cut {hs : List Nat → Nat} {en : Option Nat → Nat} {pool at_ long next heads heads' : Nat → Nat} {ls : List (List Nat)} {b : List Nat} (h : st_ok hs en pool at_ long next heads (ls ++ [b])) (h3 : heads' (hs b) = next ls.length) (h3' : ∀ j, j ≠ hs b → heads' j = heads j) :
    st_ok hs en pool at_ long next heads' ls := by
  obtain ⟨a1, a2, a3, a4, a5⟩ := h
  have hlen : (ls ++ [b]).length = ls.length + 1 := by rw [List.length_append]; rfl
  refine ⟨?_, ?_, ?_, ?_, ?_⟩
  · intro s hl
    have := a1 s (by omega)
    rw [st_off_app ls b (by omega), st_getD_app ls b hl] at this
    exact this
  · intro s k hl hk
    have := a2 s k (by omega) (by rw [st_getD_app ls b hl]; exact hk)
    rw [st_off_app ls b (by omega), st_getD_app ls b hl] at this
    exact this
  · intro j hj
    by_cases e : j = hs b
    · subst e
      rw [h3, a4 ls.length (by omega), st_getD_last]
      congr 1
      exact lx_lst_ext (fun t ht => by rw [st_getD_app ls b ht])
    · have := a3 j hj
      rw [hlen, lx_lst_f (by rw [st_getD_last]; exact beq_eq_false_iff_ne.mpr (fun q => e q.symm))] at this
      rw [h3' j e, this]
      congr 1
      exact lx_lst_ext (fun t ht => by rw [st_getD_app ls b ht])
  · intro s hl
    have := a4 s (by omega)
    rw [this, st_getD_app ls b hl]
    congr 1
    exact lx_lst_ext (fun t ht => by rw [st_getD_app ls b (by omega)])
  · intro s t hst ht
    have := a5 s t hst (by omega)
    rw [st_getD_app ls b (by omega), st_getD_app ls b ht] at this
    exact this
/-- a row's bytes -/
def bf_is (B : Nat → Nat) (b : List Nat) : Prop := ∀ k, k < b.length → B k = b.getD k 0
theorem bf_drop {b : List Nat} {k : Nat} (h : k < b.length) : b.drop k = b.getD k 0 :: b.drop (k + 1) := by
  rw [List.drop_eq_getElem_cons h, gd_lt h]
theorem bf_eq {b c : List Nat} (hl : b.length = c.length) (h : ∀ k, k < b.length → b.getD k 0 = c.getD k 0) : b = c := by
  apply List.ext_getElem hl
  intro i h1 h2
  have := h i h1
  rw [gd_lt h1, gd_lt h2] at this
  exact this
