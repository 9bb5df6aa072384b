/-! ===== 16: the reference's forget(): the whole loop ===== -/
def fl_c (j : Nat) : Nat := (4295062295 - j) % 4294967296
def fl_A (A : Nat) : Nat → Nat
  | 0 => A
  | j + 1 => ev_up (fl_A A j) j (fl_c j)
def fl_h (h : ev_H) (rA F A j : Nat) : ev_H := (h.set (rA - 36893488147419103232) (1000, 95000, fl_A A j)).set 0 (0, 160, ev_up F 96 j)
theorem ev_set_same {α : Type} {l : List α} {k : Nat} {x : α} (h : l[k]? = some x) : l.set k x = l := by
  apply List.ext_getElem?
  intro i
  by_cases hk : k = i
  · subst hk
    rw [List.getElem?_set_self (List.getElem?_eq_some_iff.mp h).1, h]
  · rw [List.getElem?_set_ne hk]
theorem ev_up_same {A j : Nat} (h : ev_at A j = 0) : ev_up A j 0 = A := by
  unfold ev_up
  rw [h]
  simp
theorem fl_set {h : ev_H} {k : Nat} {x x' y y' : ev_C} (hk : k ≠ 0) : ((((h.set k x).set 0 y).set k x').set 0 y') = (h.set k x').set 0 y' := by
  apply List.ext_getElem?
  intro i
  by_cases h0 : 0 = i
  · subst h0
    by_cases hl : 0 < h.length
    · rw [List.getElem?_set_self (by simpa using hl), List.getElem?_set_self (by simpa using hl)]
    · have : h = [] := List.length_eq_zero_iff.mp (by omega)
      subst this
      rfl
  · rw [List.getElem?_set_ne h0, List.getElem?_set_ne h0]
    by_cases hki : k = i
    · subst hki
      by_cases hl : k < h.length
      · rw [List.getElem?_set_self (by simpa using hl), List.getElem?_set_self (by simpa using hl)]
      · rw [List.getElem?_eq_none (by simpa using hl), List.getElem?_eq_none (by simpa using hl)]
    · rw [List.getElem?_set_ne hki, List.getElem?_set_ne h0, List.getElem?_set_ne hki, List.getElem?_set_ne hki]
theorem fl_c1 (j : Nat) (hj : j < 95000) : fl_c j = 94999 - j := by unfold fl_c; omega
theorem fl_cs (j : Nat) (hj : j < 95000) : ev_oAdd (fl_c j) 4294967295 = fl_c (j + 1) := by unfold ev_oAdd fl_c; omega
theorem fl_loop {cf : Nat → List Nat → ev_H → Option ev_A} {F A rA nc ns : Nat} {h : ev_H} (h0 : ev_o h 36893488147419103232 = some (0, 160, F)) (hr : ev_at F 95 = rA) (hk : ev_isR rA = true) (hk0 : rA - 36893488147419103232 ≠ 0) (hA : ev_o h rA = some (1000, 95000, A)) (hm : ev_at F 96 = 0) : ∀ j, j ≤ 95000 →
    ev_goes 0 mo_dfl cf fl_code none (16 * j) ((139, [36893488147419103232, 94999], []), h, nc, ns) ((139, [36893488147419103232, fl_c j], []), fl_h h rA F A j, nc, ns)
  | 0, _ => by
    have hA0 : h[rA - 36893488147419103232]? = some (1000, 95000, A) := by
      unfold ev_o at hA
      rw [hk, cond_true] at hA
      exact hA
    have e : fl_h h rA F A 0 = h := by
      unfold fl_h
      have e1 : fl_A A 0 = A := rfl
      rw [e1, ev_up_same hm, ev_set_same hA0]
      exact ev_set_same h0
    rw [e]
    exact ev_goes.rf _
  | j + 1, hj => by
    have ih := fl_loop (cf := cf) (nc := nc) (ns := ns) h0 hr hk hk0 hA hm j (by omega)
    have hA0 : h[rA - 36893488147419103232]? = some (1000, 95000, A) := by
      unfold ev_o at hA
      rw [hk, cond_true] at hA
      exact hA
    have hl0 : 0 < h.length := (List.getElem?_eq_some_iff.mp (show h[0]? = some (0, 160, F) from h0)).1
    have hl1 := (List.getElem?_eq_some_iff.mp hA0).1
    have hjj : j < 4722366482869645213696 := by omega
    have q0 : ev_o (fl_h h rA F A j) 36893488147419103232 = some (0, 160, ev_up F 96 j) := by
      show (fl_h h rA F A j)[0]? = _
      unfold fl_h
      rw [List.getElem?_set_self (by simpa using hl0)]
    have q1 : ev_at (ev_up F 96 j) 95 = rA := by
      rw [ev_at_up hjj, if_neg (by decide)]
      exact hr
    have q2 : ev_o (fl_h h rA F A j) rA = some (1000, 95000, fl_A A j) := by
      unfold ev_o
      rw [hk, cond_true]
      unfold fl_h
      rw [List.getElem?_set_ne (fun z => hk0 z.symm), List.getElem?_set_self hl1]
    have q3 : ev_at (ev_up F 96 j) 96 = j := by rw [ev_at_up hjj, if_pos rfl]
    have hc1 := fl_c1 j (by omega)
    have q4 : ev_isI (fl_c j) = true := Nat.blt_eq.mpr (by rw [hc1]; omega)
    have q5 : ev_if .lt (fl_c j) = false := by
      show Nat.blt (ev_s (fl_c j)) 2147483648 = false
      rw [hc1]
      unfold ev_s
      cases hq : Nat.blt ((94999 - j + 2147483648) % 4294967296) 2147483648
      · rfl
      · have := Nat.blt_eq.mp hq; omega
    have r := fl_round (cf := cf) (nc := nc) (ns := ns) q4 q5 q0 q1 hk hk0 q2 q3 (by omega)
    rw [fl_cs j (by omega)] at r
    have e : ((fl_h h rA F A j).set (rA - 36893488147419103232) (1000, 95000, ev_up (fl_A A j) j (fl_c j))).set 0 (0, 160, ev_up (ev_up F 96 j) 96 (ev_oAdd j 1)) = fl_h h rA F A (j + 1) := by
      have e2 : ev_oAdd j 1 = j + 1 := by unfold ev_oAdd; omega
      rw [e2, ev_up_up hjj]
      unfold fl_h
      exact fl_set hk0
    rw [e] at r
    have := ih.tr r
    rw [show 16 * (j + 1) = 16 + 16 * j by omega]
    exact this
