/-! ===== 20a: the reference's forget(): its rows of free places and cells filled (by wip/p1/genfl2.py) ===== -/
abbrev fl_code : List (List ev_I) := ev_un al_mX12_forget.2.2.2.2
theorem fl_mono (a b : Nat) : (Nat.ble a a && Nat.ble b b) = true := by rw [Nat.ble_eq_true_of_le (Nat.le_refl a), Nat.ble_eq_true_of_le (Nat.le_refl b)]; rfl
set_option maxHeartbeats 4000000 in
theorem fl_round {cf : Nat → List Nat → ev_H → Option ev_A} {c m F A rA nc ns : Nat} {h : ev_H} (hc : ev_isI c = true) (hn : ev_if .lt c = false) (h0 : ev_o h 36893488147419103232 = some (0, 160, F)) (hr : ev_at F 95 = rA) (hk : ev_isR rA = true) (hk0 : rA - 36893488147419103232 ≠ 0) (hA : ev_o h rA = some (1000, 95000, A)) (hm : ev_at F 96 = m) (hm2 : m < 95000) :
    ev_goes 0 al_dfl cf fl_code none 16 ((139, [36893488147419103232, c], []), h, nc, ns) ((139, [36893488147419103232, ev_oAdd c 4294967295], []), ((h.set (rA - 36893488147419103232) (1000, 95000, ev_up A m c)).set 0 (0, 160, ev_up F 96 (ev_oAdd m 1))), nc, ns) := by
  have hmI : ev_isI m = true := Nat.blt_eq.mpr (by omega)
  have hmI1 : ev_isI (ev_oAdd m 1) = true := Nat.blt_eq.mpr (Nat.mod_lt _ (by decide))
  have hmb : Nat.blt m 95000 = true := Nat.blt_eq.mpr (by omega)
  have hT : ev_isR 36893488147419103232 = true := rfl
  have k1 : Nat.blt 95 160 = true := rfl
  have k2 : Nat.blt 96 160 = true := rfl
  have k3 : Nat.blt 95000 2147483648 = true := rfl
  have k4 : ∀ x : Nat, Nat.ble 0 x = true := fun x => Nat.ble_eq_true_of_le (Nat.zero_le x)
  have k5 : ev_isL 36893488147419103232 = false := rfl
  have k6 : ev_isI 1 = true := rfl
  have k7 : (1 : Int32) = nI 1 := rfl
  have k8 : nI 4294967295 = Int32.ofInt (-1) := by decide
  have k9 : Nat.blt 1 2 = true := rfl
  have hh0 : h[0]? = some (0, 160, F) := h0
  have h01 : ev_o (h.set (rA - 36893488147419103232) (1000, 95000, ev_up A m c)) 36893488147419103232 = some (0, 160, F) := by
    show (h.set (rA - 36893488147419103232) (1000, 95000, ev_up A m c))[0]? = _
    rw [List.getElem?_set_ne hk0]
    exact hh0
  have s0 : ev_goes 0 al_dfl cf fl_code none 1 ((139, [36893488147419103232, c], []), h, nc, ns) ((140, [36893488147419103232, c], [c]), h, nc, ns) := ev_goes.one (x := (139, .iload_n 1, 1, 0, 0, 0, 0)) rfl rfl (ev_stepX_of rfl (by
    simp [ev_step, ev_stH, ev_stA, ev_ldI, ev_ldR, ev_pI, ev_wr, ev_binI, ev_fit, ev_set1, k1, k2, k3, k4, k5, k6, k7, k8, k9, hc, hn, h0, h01, hr, hA, hm, hmI, hmI1, hmb, hT, hk])) (fl_mono _ _)
  have s1 : ev_goes 0 al_dfl cf fl_code none 1 ((140, [36893488147419103232, c], [c]), h, nc, ns) ((143, [36893488147419103232, c], []), h, nc, ns) := ev_goes.one (x := (140, .ifCond .lt 29, 3, 169, 0, 0, 0)) rfl rfl (ev_stepX_of rfl (by
    simp [ev_step, ev_stH, ev_stA, ev_ldI, ev_ldR, ev_pI, ev_wr, ev_binI, ev_fit, ev_set1, k1, k2, k3, k4, k5, k6, k7, k8, k9, hc, hn, h0, h01, hr, hA, hm, hmI, hmI1, hmb, hT, hk])) (fl_mono _ _)
  have s2 : ev_goes 0 al_dfl cf fl_code none 1 ((143, [36893488147419103232, c], []), h, nc, ns) ((144, [36893488147419103232, c], [36893488147419103232]), h, nc, ns) := ev_goes.one (x := (143, .aload_n 0, 1, 0, 0, 0, 0)) rfl rfl (ev_stepX_of rfl (by
    simp [ev_step, ev_stH, ev_stA, ev_ldI, ev_ldR, ev_pI, ev_wr, ev_binI, ev_fit, ev_set1, k1, k2, k3, k4, k5, k6, k7, k8, k9, hc, hn, h0, h01, hr, hA, hm, hmI, hmI1, hmb, hT, hk])) (fl_mono _ _)
  have s3 : ev_goes 0 al_dfl cf fl_code none 1 ((144, [36893488147419103232, c], [36893488147419103232]), h, nc, ns) ((147, [36893488147419103232, c], [rA]), h, nc, ns) := ev_goes.one (x := (144, .getfield 184, 3, 0, 95, 20, 103)) rfl rfl (ev_stepX_of rfl (by
    simp [ev_step, ev_stH, ev_stA, ev_ldI, ev_ldR, ev_pI, ev_wr, ev_binI, ev_fit, ev_set1, k1, k2, k3, k4, k5, k6, k7, k8, k9, hc, hn, h0, h01, hr, hA, hm, hmI, hmI1, hmb, hT, hk])) (fl_mono _ _)
  have s4 : ev_goes 0 al_dfl cf fl_code none 1 ((147, [36893488147419103232, c], [rA]), h, nc, ns) ((148, [36893488147419103232, c], [36893488147419103232, rA]), h, nc, ns) := ev_goes.one (x := (147, .aload_n 0, 1, 0, 0, 0, 0)) rfl rfl (ev_stepX_of rfl (by
    simp [ev_step, ev_stH, ev_stA, ev_ldI, ev_ldR, ev_pI, ev_wr, ev_binI, ev_fit, ev_set1, k1, k2, k3, k4, k5, k6, k7, k8, k9, hc, hn, h0, h01, hr, hA, hm, hmI, hmI1, hmb, hT, hk])) (fl_mono _ _)
  have s5 : ev_goes 0 al_dfl cf fl_code none 1 ((148, [36893488147419103232, c], [36893488147419103232, rA]), h, nc, ns) ((151, [36893488147419103232, c], [m, rA]), h, nc, ns) := ev_goes.one (x := (148, .getfield 1071, 3, 0, 96, 0, 343)) rfl rfl (ev_stepX_of rfl (by
    simp [ev_step, ev_stH, ev_stA, ev_ldI, ev_ldR, ev_pI, ev_wr, ev_binI, ev_fit, ev_set1, k1, k2, k3, k4, k5, k6, k7, k8, k9, hc, hn, h0, h01, hr, hA, hm, hmI, hmI1, hmb, hT, hk])) (fl_mono _ _)
  have s6 : ev_goes 0 al_dfl cf fl_code none 1 ((151, [36893488147419103232, c], [m, rA]), h, nc, ns) ((152, [36893488147419103232, c], [c, m, rA]), h, nc, ns) := ev_goes.one (x := (151, .iload_n 1, 1, 0, 0, 0, 0)) rfl rfl (ev_stepX_of rfl (by
    simp [ev_step, ev_stH, ev_stA, ev_ldI, ev_ldR, ev_pI, ev_wr, ev_binI, ev_fit, ev_set1, k1, k2, k3, k4, k5, k6, k7, k8, k9, hc, hn, h0, h01, hr, hA, hm, hmI, hmI1, hmb, hT, hk])) (fl_mono _ _)
  have s7 : ev_goes 0 al_dfl cf fl_code none 1 ((152, [36893488147419103232, c], [c, m, rA]), h, nc, ns) ((153, [36893488147419103232, c], []), (h.set (rA - 36893488147419103232) (1000, 95000, ev_up A m c)), nc, ns) := ev_goes.one (x := (152, .iastore, 1, 0, 0, 0, 0)) rfl rfl (ev_stepX_of rfl (by
    simp [ev_step, ev_stH, ev_stA, ev_ldI, ev_ldR, ev_pI, ev_wr, ev_binI, ev_fit, ev_set1, k1, k2, k3, k4, k5, k6, k7, k8, k9, hc, hn, h0, h01, hr, hA, hm, hmI, hmI1, hmb, hT, hk])) (fl_mono _ _)
  have s8 : ev_goes 0 al_dfl cf fl_code none 1 ((153, [36893488147419103232, c], []), (h.set (rA - 36893488147419103232) (1000, 95000, ev_up A m c)), nc, ns) ((154, [36893488147419103232, c], [36893488147419103232]), (h.set (rA - 36893488147419103232) (1000, 95000, ev_up A m c)), nc, ns) := ev_goes.one (x := (153, .aload_n 0, 1, 0, 0, 0, 0)) rfl rfl (ev_stepX_of rfl (by
    simp [ev_step, ev_stH, ev_stA, ev_ldI, ev_ldR, ev_pI, ev_wr, ev_binI, ev_fit, ev_set1, k1, k2, k3, k4, k5, k6, k7, k8, k9, hc, hn, h0, h01, hr, hA, hm, hmI, hmI1, hmb, hT, hk])) (fl_mono _ _)
  have s9 : ev_goes 0 al_dfl cf fl_code none 1 ((154, [36893488147419103232, c], [36893488147419103232]), (h.set (rA - 36893488147419103232) (1000, 95000, ev_up A m c)), nc, ns) ((155, [36893488147419103232, c], [36893488147419103232, 36893488147419103232]), (h.set (rA - 36893488147419103232) (1000, 95000, ev_up A m c)), nc, ns) := ev_goes.one (x := (154, .dup, 1, 0, 0, 0, 0)) rfl rfl (ev_stepX_of rfl (by
    simp [ev_step, ev_stH, ev_stA, ev_ldI, ev_ldR, ev_pI, ev_wr, ev_binI, ev_fit, ev_set1, k1, k2, k3, k4, k5, k6, k7, k8, k9, hc, hn, h0, h01, hr, hA, hm, hmI, hmI1, hmb, hT, hk])) (fl_mono _ _)
  have s10 : ev_goes 0 al_dfl cf fl_code none 1 ((155, [36893488147419103232, c], [36893488147419103232, 36893488147419103232]), (h.set (rA - 36893488147419103232) (1000, 95000, ev_up A m c)), nc, ns) ((158, [36893488147419103232, c], [m, 36893488147419103232]), (h.set (rA - 36893488147419103232) (1000, 95000, ev_up A m c)), nc, ns) := ev_goes.one (x := (155, .getfield 1071, 3, 0, 96, 0, 343)) rfl rfl (ev_stepX_of rfl (by
    simp [ev_step, ev_stH, ev_stA, ev_ldI, ev_ldR, ev_pI, ev_wr, ev_binI, ev_fit, ev_set1, k1, k2, k3, k4, k5, k6, k7, k8, k9, hc, hn, h0, h01, hr, hA, hm, hmI, hmI1, hmb, hT, hk])) (fl_mono _ _)
  have s11 : ev_goes 0 al_dfl cf fl_code none 1 ((158, [36893488147419103232, c], [m, 36893488147419103232]), (h.set (rA - 36893488147419103232) (1000, 95000, ev_up A m c)), nc, ns) ((159, [36893488147419103232, c], [1, m, 36893488147419103232]), (h.set (rA - 36893488147419103232) (1000, 95000, ev_up A m c)), nc, ns) := ev_goes.one (x := (158, .iconst 1, 1, 1, 0, 0, 0)) rfl rfl (ev_stepX_of rfl (by
    simp [ev_step, ev_stH, ev_stA, ev_ldI, ev_ldR, ev_pI, ev_wr, ev_binI, ev_fit, ev_set1, k1, k2, k3, k4, k5, k6, k7, k8, k9, hc, hn, h0, h01, hr, hA, hm, hmI, hmI1, hmb, hT, hk])) (fl_mono _ _)
  have s12 : ev_goes 0 al_dfl cf fl_code none 1 ((159, [36893488147419103232, c], [1, m, 36893488147419103232]), (h.set (rA - 36893488147419103232) (1000, 95000, ev_up A m c)), nc, ns) ((160, [36893488147419103232, c], [ev_oAdd m 1, 36893488147419103232]), (h.set (rA - 36893488147419103232) (1000, 95000, ev_up A m c)), nc, ns) := ev_goes.one (x := (159, .iadd, 1, 0, 0, 0, 0)) rfl rfl (ev_stepX_of rfl (by
    simp [ev_step, ev_stH, ev_stA, ev_ldI, ev_ldR, ev_pI, ev_wr, ev_binI, ev_fit, ev_set1, k1, k2, k3, k4, k5, k6, k7, k8, k9, hc, hn, h0, h01, hr, hA, hm, hmI, hmI1, hmb, hT, hk])) (fl_mono _ _)
  have s13 : ev_goes 0 al_dfl cf fl_code none 1 ((160, [36893488147419103232, c], [ev_oAdd m 1, 36893488147419103232]), (h.set (rA - 36893488147419103232) (1000, 95000, ev_up A m c)), nc, ns) ((163, [36893488147419103232, c], []), ((h.set (rA - 36893488147419103232) (1000, 95000, ev_up A m c)).set 0 (0, 160, ev_up F 96 (ev_oAdd m 1))), nc, ns) := ev_goes.one (x := (160, .putfield 1071, 3, 0, 96, 0, 343)) rfl rfl (ev_stepX_of rfl (by
    simp [ev_step, ev_stH, ev_stA, ev_ldI, ev_ldR, ev_pI, ev_wr, ev_binI, ev_fit, ev_set1, k1, k2, k3, k4, k5, k6, k7, k8, k9, hc, hn, h0, h01, hr, hA, hm, hmI, hmI1, hmb, hT, hk])) (fl_mono _ _)
  have s14 : ev_goes 0 al_dfl cf fl_code none 1 ((163, [36893488147419103232, c], []), ((h.set (rA - 36893488147419103232) (1000, 95000, ev_up A m c)).set 0 (0, 160, ev_up F 96 (ev_oAdd m 1))), nc, ns) ((166, [36893488147419103232, ev_oAdd c 4294967295], []), ((h.set (rA - 36893488147419103232) (1000, 95000, ev_up A m c)).set 0 (0, 160, ev_up F 96 (ev_oAdd m 1))), nc, ns) := ev_goes.one (x := (163, .iinc 1 (-1), 3, 4294967295, 0, 0, 0)) rfl rfl (ev_stepX_of rfl (by
    simp [ev_step, ev_stH, ev_stA, ev_ldI, ev_ldR, ev_pI, ev_wr, ev_binI, ev_fit, ev_set1, k1, k2, k3, k4, k5, k6, k7, k8, k9, hc, hn, h0, h01, hr, hA, hm, hmI, hmI1, hmb, hT, hk])) (fl_mono _ _)
  have s15 : ev_goes 0 al_dfl cf fl_code none 1 ((166, [36893488147419103232, ev_oAdd c 4294967295], []), ((h.set (rA - 36893488147419103232) (1000, 95000, ev_up A m c)).set 0 (0, 160, ev_up F 96 (ev_oAdd m 1))), nc, ns) ((139, [36893488147419103232, ev_oAdd c 4294967295], []), ((h.set (rA - 36893488147419103232) (1000, 95000, ev_up A m c)).set 0 (0, 160, ev_up F 96 (ev_oAdd m 1))), nc, ns) := ev_goes.one (x := (166, .goto (-27), 3, 139, 0, 0, 0)) rfl rfl (ev_stepX_of rfl (by
    simp [ev_step, ev_stH, ev_stA, ev_ldI, ev_ldR, ev_pI, ev_wr, ev_binI, ev_fit, ev_set1, k1, k2, k3, k4, k5, k6, k7, k8, k9, hc, hn, h0, h01, hr, hA, hm, hmI, hmI1, hmb, hT, hk])) (fl_mono _ _)
  exact (((((((((((((((s0).tr s1).tr s2).tr s3).tr s4).tr s5).tr s6).tr s7).tr s8).tr s9).tr s10).tr s11).tr s12).tr s13).tr s14).tr s15
def fl_c (j : Nat) : Nat := (4295062295 - j) % 4294967296
def fl_A (A : Nat) : Nat → Nat
  | 0 => A
  | j + 1 => ev_up (fl_A A j) j (fl_c j)
def fl_h (h : ev_H) (rA F A j : Nat) : ev_H := (h.set (rA - 36893488147419103232) (1000, 95000, fl_A A j)).set 0 (0, 160, ev_up F 96 j)
theorem ev_set_same {α : Type} {l : List α} {k : Nat} {x : α} (h : l[k]? = some x) : l.set k x = l := by
  apply List.ext_getElem?
  intro i
  by_cases hk : k = i
  · subst hk
    rw [List.getElem?_set_self (List.getElem?_eq_some_iff.mp h).1, h]
  · rw [List.getElem?_set_ne hk]
theorem ev_up_same {A j : Nat} (h : ev_at A j = 0) : ev_up A j 0 = A := by
  unfold ev_up
  rw [h]
  simp
theorem fl_set {h : ev_H} {k : Nat} {x x' y y' : ev_C} (hk : k ≠ 0) : ((((h.set k x).set 0 y).set k x').set 0 y') = (h.set k x').set 0 y' := by
  apply List.ext_getElem?
  intro i
  by_cases h0 : 0 = i
  · subst h0
    by_cases hl : 0 < h.length
    · rw [List.getElem?_set_self (by simpa using hl), List.getElem?_set_self (by simpa using hl)]
    · have : h = [] := List.length_eq_zero_iff.mp (by omega)
      subst this
      rfl
  · rw [List.getElem?_set_ne h0, List.getElem?_set_ne h0]
    by_cases hki : k = i
    · subst hki
      by_cases hl : k < h.length
      · rw [List.getElem?_set_self (by simpa using hl), List.getElem?_set_self (by simpa using hl)]
      · rw [List.getElem?_eq_none (by simpa using hl), List.getElem?_eq_none (by simpa using hl)]
    · rw [List.getElem?_set_ne hki, List.getElem?_set_ne h0, List.getElem?_set_ne hki, List.getElem?_set_ne hki]
theorem fl_c1 (j : Nat) (hj : j < 95000) : fl_c j = 94999 - j := by unfold fl_c; omega
theorem fl_cs (j : Nat) (hj : j < 95000) : ev_oAdd (fl_c j) 4294967295 = fl_c (j + 1) := by unfold ev_oAdd fl_c; omega
theorem fl_loop {cf : Nat → List Nat → ev_H → Option ev_A} {F A rA nc ns : Nat} {h : ev_H} (h0 : ev_o h 36893488147419103232 = some (0, 160, F)) (hr : ev_at F 95 = rA) (hk : ev_isR rA = true) (hk0 : rA - 36893488147419103232 ≠ 0) (hA : ev_o h rA = some (1000, 95000, A)) (hm : ev_at F 96 = 0) : ∀ j, j ≤ 95000 →
    ev_goes 0 al_dfl cf fl_code none (16 * j) ((139, [36893488147419103232, 94999], []), h, nc, ns) ((139, [36893488147419103232, fl_c j], []), fl_h h rA F A j, nc, ns)
  | 0, _ => by
    have hA0 : h[rA - 36893488147419103232]? = some (1000, 95000, A) := by
      unfold ev_o at hA
      rw [hk, cond_true] at hA
      exact hA
    have e : fl_h h rA F A 0 = h := by
      unfold fl_h
      have e1 : fl_A A 0 = A := rfl
      rw [e1, ev_up_same hm, ev_set_same hA0]
      exact ev_set_same h0
    rw [e]
    exact ev_goes.rf _
  | j + 1, hj => by
    have ih := fl_loop (cf := cf) (nc := nc) (ns := ns) h0 hr hk hk0 hA hm j (by omega)
    have hA0 : h[rA - 36893488147419103232]? = some (1000, 95000, A) := by
      unfold ev_o at hA
      rw [hk, cond_true] at hA
      exact hA
    have hl0 : 0 < h.length := (List.getElem?_eq_some_iff.mp (show h[0]? = some (0, 160, F) from h0)).1
    have hl1 := (List.getElem?_eq_some_iff.mp hA0).1
    have hjj : j < 4722366482869645213696 := by omega
    have q0 : ev_o (fl_h h rA F A j) 36893488147419103232 = some (0, 160, ev_up F 96 j) := by
      show (fl_h h rA F A j)[0]? = _
      unfold fl_h
      rw [List.getElem?_set_self (by simpa using hl0)]
    have q1 : ev_at (ev_up F 96 j) 95 = rA := by
      rw [ev_at_up hjj, if_neg (by decide)]
      exact hr
    have q2 : ev_o (fl_h h rA F A j) rA = some (1000, 95000, fl_A A j) := by
      unfold ev_o
      rw [hk, cond_true]
      unfold fl_h
      rw [List.getElem?_set_ne (fun z => hk0 z.symm), List.getElem?_set_self hl1]
    have q3 : ev_at (ev_up F 96 j) 96 = j := by rw [ev_at_up hjj, if_pos rfl]
    have hc1 := fl_c1 j (by omega)
    have q4 : ev_isI (fl_c j) = true := Nat.blt_eq.mpr (by rw [hc1]; omega)
    have q5 : ev_if .lt (fl_c j) = false := by
      show Nat.blt (ev_s (fl_c j)) 2147483648 = false
      rw [hc1]
      unfold ev_s
      cases hq : Nat.blt ((94999 - j + 2147483648) % 4294967296) 2147483648
      · rfl
      · have := Nat.blt_eq.mp hq; omega
    have r := fl_round (cf := cf) (nc := nc) (ns := ns) q4 q5 q0 q1 hk hk0 q2 q3 (by omega)
    rw [fl_cs j (by omega)] at r
    have e : ((fl_h h rA F A j).set (rA - 36893488147419103232) (1000, 95000, ev_up (fl_A A j) j (fl_c j))).set 0 (0, 160, ev_up (ev_up F 96 j) 96 (ev_oAdd j 1)) = fl_h h rA F A (j + 1) := by
      have e2 : ev_oAdd j 1 = j + 1 := by unfold ev_oAdd; omega
      rw [e2, ev_up_up hjj]
      unfold fl_h
      exact fl_set hk0
    rw [e] at r
    have := ih.tr r
    rw [show 16 * (j + 1) = 16 + 16 * j by omega]
    exact this
set_option maxHeartbeats 4000000 in
theorem fp_round {cf : Nat → List Nat → ev_H → Option ev_A} {c m F A rA nc ns : Nat} {h : ev_H} (hc : ev_isI c = true) (hn : ev_if .lt c = false) (h0 : ev_o h 36893488147419103232 = some (0, 160, F)) (hr : ev_at F 87 = rA) (hk : ev_isR rA = true) (hk0 : rA - 36893488147419103232 ≠ 0) (hA : ev_o h rA = some (1000, 3001, A)) (hm : ev_at F 88 = m) (hm2 : m < 3000) :
    ev_goes 0 al_dfl cf fl_code none 16 ((95, [36893488147419103232, c], []), h, nc, ns) ((95, [36893488147419103232, ev_oAdd c 4294967295], []), ((h.set (rA - 36893488147419103232) (1000, 3001, ev_up A m c)).set 0 (0, 160, ev_up F 88 (ev_oAdd m 1))), nc, ns) := by
  have hmI : ev_isI m = true := Nat.blt_eq.mpr (by omega)
  have hmI1 : ev_isI (ev_oAdd m 1) = true := Nat.blt_eq.mpr (Nat.mod_lt _ (by decide))
  have hmb : Nat.blt m 3001 = true := Nat.blt_eq.mpr (by omega)
  have hT : ev_isR 36893488147419103232 = true := rfl
  have k1 : Nat.blt 87 160 = true := rfl
  have k2 : Nat.blt 88 160 = true := rfl
  have k3 : Nat.blt 3001 2147483648 = true := rfl
  have k4 : ∀ x : Nat, Nat.ble 0 x = true := fun x => Nat.ble_eq_true_of_le (Nat.zero_le x)
  have k5 : ev_isL 36893488147419103232 = false := rfl
  have k6 : ev_isI 1 = true := rfl
  have k7 : (1 : Int32) = nI 1 := rfl
  have k8 : nI 4294967295 = Int32.ofInt (-1) := by decide
  have k9 : Nat.blt 1 2 = true := rfl
  have hh0 : h[0]? = some (0, 160, F) := h0
  have h01 : ev_o (h.set (rA - 36893488147419103232) (1000, 3001, ev_up A m c)) 36893488147419103232 = some (0, 160, F) := by
    show (h.set (rA - 36893488147419103232) (1000, 3001, ev_up A m c))[0]? = _
    rw [List.getElem?_set_ne hk0]
    exact hh0
  have s0 : ev_goes 0 al_dfl cf fl_code none 1 ((95, [36893488147419103232, c], []), h, nc, ns) ((96, [36893488147419103232, c], [c]), h, nc, ns) := ev_goes.one (x := (95, .iload_n 1, 1, 0, 0, 0, 0)) rfl rfl (ev_stepX_of rfl (by
    simp [ev_step, ev_stH, ev_stA, ev_ldI, ev_ldR, ev_pI, ev_wr, ev_binI, ev_fit, ev_set1, k1, k2, k3, k4, k5, k6, k7, k8, k9, hc, hn, h0, h01, hr, hA, hm, hmI, hmI1, hmb, hT, hk])) (fl_mono _ _)
  have s1 : ev_goes 0 al_dfl cf fl_code none 1 ((96, [36893488147419103232, c], [c]), h, nc, ns) ((99, [36893488147419103232, c], []), h, nc, ns) := ev_goes.one (x := (96, .ifCond .lt 29, 3, 125, 0, 0, 0)) rfl rfl (ev_stepX_of rfl (by
    simp [ev_step, ev_stH, ev_stA, ev_ldI, ev_ldR, ev_pI, ev_wr, ev_binI, ev_fit, ev_set1, k1, k2, k3, k4, k5, k6, k7, k8, k9, hc, hn, h0, h01, hr, hA, hm, hmI, hmI1, hmb, hT, hk])) (fl_mono _ _)
  have s2 : ev_goes 0 al_dfl cf fl_code none 1 ((99, [36893488147419103232, c], []), h, nc, ns) ((100, [36893488147419103232, c], [36893488147419103232]), h, nc, ns) := ev_goes.one (x := (99, .aload_n 0, 1, 0, 0, 0, 0)) rfl rfl (ev_stepX_of rfl (by
    simp [ev_step, ev_stH, ev_stA, ev_ldI, ev_ldR, ev_pI, ev_wr, ev_binI, ev_fit, ev_set1, k1, k2, k3, k4, k5, k6, k7, k8, k9, hc, hn, h0, h01, hr, hA, hm, hmI, hmI1, hmb, hT, hk])) (fl_mono _ _)
  have s3 : ev_goes 0 al_dfl cf fl_code none 1 ((100, [36893488147419103232, c], [36893488147419103232]), h, nc, ns) ((103, [36893488147419103232, c], [rA]), h, nc, ns) := ev_goes.one (x := (100, .getfield 171, 3, 0, 87, 20, 98)) rfl rfl (ev_stepX_of rfl (by
    simp [ev_step, ev_stH, ev_stA, ev_ldI, ev_ldR, ev_pI, ev_wr, ev_binI, ev_fit, ev_set1, k1, k2, k3, k4, k5, k6, k7, k8, k9, hc, hn, h0, h01, hr, hA, hm, hmI, hmI1, hmb, hT, hk])) (fl_mono _ _)
  have s4 : ev_goes 0 al_dfl cf fl_code none 1 ((103, [36893488147419103232, c], [rA]), h, nc, ns) ((104, [36893488147419103232, c], [36893488147419103232, rA]), h, nc, ns) := ev_goes.one (x := (103, .aload_n 0, 1, 0, 0, 0, 0)) rfl rfl (ev_stepX_of rfl (by
    simp [ev_step, ev_stH, ev_stA, ev_ldI, ev_ldR, ev_pI, ev_wr, ev_binI, ev_fit, ev_set1, k1, k2, k3, k4, k5, k6, k7, k8, k9, hc, hn, h0, h01, hr, hA, hm, hmI, hmI1, hmb, hT, hk])) (fl_mono _ _)
  have s5 : ev_goes 0 al_dfl cf fl_code none 1 ((104, [36893488147419103232, c], [36893488147419103232, rA]), h, nc, ns) ((107, [36893488147419103232, c], [m, rA]), h, nc, ns) := ev_goes.one (x := (104, .getfield 1058, 3, 0, 88, 0, 332)) rfl rfl (ev_stepX_of rfl (by
    simp [ev_step, ev_stH, ev_stA, ev_ldI, ev_ldR, ev_pI, ev_wr, ev_binI, ev_fit, ev_set1, k1, k2, k3, k4, k5, k6, k7, k8, k9, hc, hn, h0, h01, hr, hA, hm, hmI, hmI1, hmb, hT, hk])) (fl_mono _ _)
  have s6 : ev_goes 0 al_dfl cf fl_code none 1 ((107, [36893488147419103232, c], [m, rA]), h, nc, ns) ((108, [36893488147419103232, c], [c, m, rA]), h, nc, ns) := ev_goes.one (x := (107, .iload_n 1, 1, 0, 0, 0, 0)) rfl rfl (ev_stepX_of rfl (by
    simp [ev_step, ev_stH, ev_stA, ev_ldI, ev_ldR, ev_pI, ev_wr, ev_binI, ev_fit, ev_set1, k1, k2, k3, k4, k5, k6, k7, k8, k9, hc, hn, h0, h01, hr, hA, hm, hmI, hmI1, hmb, hT, hk])) (fl_mono _ _)
  have s7 : ev_goes 0 al_dfl cf fl_code none 1 ((108, [36893488147419103232, c], [c, m, rA]), h, nc, ns) ((109, [36893488147419103232, c], []), (h.set (rA - 36893488147419103232) (1000, 3001, ev_up A m c)), nc, ns) := ev_goes.one (x := (108, .iastore, 1, 0, 0, 0, 0)) rfl rfl (ev_stepX_of rfl (by
    simp [ev_step, ev_stH, ev_stA, ev_ldI, ev_ldR, ev_pI, ev_wr, ev_binI, ev_fit, ev_set1, k1, k2, k3, k4, k5, k6, k7, k8, k9, hc, hn, h0, h01, hr, hA, hm, hmI, hmI1, hmb, hT, hk])) (fl_mono _ _)
  have s8 : ev_goes 0 al_dfl cf fl_code none 1 ((109, [36893488147419103232, c], []), (h.set (rA - 36893488147419103232) (1000, 3001, ev_up A m c)), nc, ns) ((110, [36893488147419103232, c], [36893488147419103232]), (h.set (rA - 36893488147419103232) (1000, 3001, ev_up A m c)), nc, ns) := ev_goes.one (x := (109, .aload_n 0, 1, 0, 0, 0, 0)) rfl rfl (ev_stepX_of rfl (by
    simp [ev_step, ev_stH, ev_stA, ev_ldI, ev_ldR, ev_pI, ev_wr, ev_binI, ev_fit, ev_set1, k1, k2, k3, k4, k5, k6, k7, k8, k9, hc, hn, h0, h01, hr, hA, hm, hmI, hmI1, hmb, hT, hk])) (fl_mono _ _)
  have s9 : ev_goes 0 al_dfl cf fl_code none 1 ((110, [36893488147419103232, c], [36893488147419103232]), (h.set (rA - 36893488147419103232) (1000, 3001, ev_up A m c)), nc, ns) ((111, [36893488147419103232, c], [36893488147419103232, 36893488147419103232]), (h.set (rA - 36893488147419103232) (1000, 3001, ev_up A m c)), nc, ns) := ev_goes.one (x := (110, .dup, 1, 0, 0, 0, 0)) rfl rfl (ev_stepX_of rfl (by
    simp [ev_step, ev_stH, ev_stA, ev_ldI, ev_ldR, ev_pI, ev_wr, ev_binI, ev_fit, ev_set1, k1, k2, k3, k4, k5, k6, k7, k8, k9, hc, hn, h0, h01, hr, hA, hm, hmI, hmI1, hmb, hT, hk])) (fl_mono _ _)
  have s10 : ev_goes 0 al_dfl cf fl_code none 1 ((111, [36893488147419103232, c], [36893488147419103232, 36893488147419103232]), (h.set (rA - 36893488147419103232) (1000, 3001, ev_up A m c)), nc, ns) ((114, [36893488147419103232, c], [m, 36893488147419103232]), (h.set (rA - 36893488147419103232) (1000, 3001, ev_up A m c)), nc, ns) := ev_goes.one (x := (111, .getfield 1058, 3, 0, 88, 0, 332)) rfl rfl (ev_stepX_of rfl (by
    simp [ev_step, ev_stH, ev_stA, ev_ldI, ev_ldR, ev_pI, ev_wr, ev_binI, ev_fit, ev_set1, k1, k2, k3, k4, k5, k6, k7, k8, k9, hc, hn, h0, h01, hr, hA, hm, hmI, hmI1, hmb, hT, hk])) (fl_mono _ _)
  have s11 : ev_goes 0 al_dfl cf fl_code none 1 ((114, [36893488147419103232, c], [m, 36893488147419103232]), (h.set (rA - 36893488147419103232) (1000, 3001, ev_up A m c)), nc, ns) ((115, [36893488147419103232, c], [1, m, 36893488147419103232]), (h.set (rA - 36893488147419103232) (1000, 3001, ev_up A m c)), nc, ns) := ev_goes.one (x := (114, .iconst 1, 1, 1, 0, 0, 0)) rfl rfl (ev_stepX_of rfl (by
    simp [ev_step, ev_stH, ev_stA, ev_ldI, ev_ldR, ev_pI, ev_wr, ev_binI, ev_fit, ev_set1, k1, k2, k3, k4, k5, k6, k7, k8, k9, hc, hn, h0, h01, hr, hA, hm, hmI, hmI1, hmb, hT, hk])) (fl_mono _ _)
  have s12 : ev_goes 0 al_dfl cf fl_code none 1 ((115, [36893488147419103232, c], [1, m, 36893488147419103232]), (h.set (rA - 36893488147419103232) (1000, 3001, ev_up A m c)), nc, ns) ((116, [36893488147419103232, c], [ev_oAdd m 1, 36893488147419103232]), (h.set (rA - 36893488147419103232) (1000, 3001, ev_up A m c)), nc, ns) := ev_goes.one (x := (115, .iadd, 1, 0, 0, 0, 0)) rfl rfl (ev_stepX_of rfl (by
    simp [ev_step, ev_stH, ev_stA, ev_ldI, ev_ldR, ev_pI, ev_wr, ev_binI, ev_fit, ev_set1, k1, k2, k3, k4, k5, k6, k7, k8, k9, hc, hn, h0, h01, hr, hA, hm, hmI, hmI1, hmb, hT, hk])) (fl_mono _ _)
  have s13 : ev_goes 0 al_dfl cf fl_code none 1 ((116, [36893488147419103232, c], [ev_oAdd m 1, 36893488147419103232]), (h.set (rA - 36893488147419103232) (1000, 3001, ev_up A m c)), nc, ns) ((119, [36893488147419103232, c], []), ((h.set (rA - 36893488147419103232) (1000, 3001, ev_up A m c)).set 0 (0, 160, ev_up F 88 (ev_oAdd m 1))), nc, ns) := ev_goes.one (x := (116, .putfield 1058, 3, 0, 88, 0, 332)) rfl rfl (ev_stepX_of rfl (by
    simp [ev_step, ev_stH, ev_stA, ev_ldI, ev_ldR, ev_pI, ev_wr, ev_binI, ev_fit, ev_set1, k1, k2, k3, k4, k5, k6, k7, k8, k9, hc, hn, h0, h01, hr, hA, hm, hmI, hmI1, hmb, hT, hk])) (fl_mono _ _)
  have s14 : ev_goes 0 al_dfl cf fl_code none 1 ((119, [36893488147419103232, c], []), ((h.set (rA - 36893488147419103232) (1000, 3001, ev_up A m c)).set 0 (0, 160, ev_up F 88 (ev_oAdd m 1))), nc, ns) ((122, [36893488147419103232, ev_oAdd c 4294967295], []), ((h.set (rA - 36893488147419103232) (1000, 3001, ev_up A m c)).set 0 (0, 160, ev_up F 88 (ev_oAdd m 1))), nc, ns) := ev_goes.one (x := (119, .iinc 1 (-1), 3, 4294967295, 0, 0, 0)) rfl rfl (ev_stepX_of rfl (by
    simp [ev_step, ev_stH, ev_stA, ev_ldI, ev_ldR, ev_pI, ev_wr, ev_binI, ev_fit, ev_set1, k1, k2, k3, k4, k5, k6, k7, k8, k9, hc, hn, h0, h01, hr, hA, hm, hmI, hmI1, hmb, hT, hk])) (fl_mono _ _)
  have s15 : ev_goes 0 al_dfl cf fl_code none 1 ((122, [36893488147419103232, ev_oAdd c 4294967295], []), ((h.set (rA - 36893488147419103232) (1000, 3001, ev_up A m c)).set 0 (0, 160, ev_up F 88 (ev_oAdd m 1))), nc, ns) ((95, [36893488147419103232, ev_oAdd c 4294967295], []), ((h.set (rA - 36893488147419103232) (1000, 3001, ev_up A m c)).set 0 (0, 160, ev_up F 88 (ev_oAdd m 1))), nc, ns) := ev_goes.one (x := (122, .goto (-27), 3, 95, 0, 0, 0)) rfl rfl (ev_stepX_of rfl (by
    simp [ev_step, ev_stH, ev_stA, ev_ldI, ev_ldR, ev_pI, ev_wr, ev_binI, ev_fit, ev_set1, k1, k2, k3, k4, k5, k6, k7, k8, k9, hc, hn, h0, h01, hr, hA, hm, hmI, hmI1, hmb, hT, hk])) (fl_mono _ _)
  exact (((((((((((((((s0).tr s1).tr s2).tr s3).tr s4).tr s5).tr s6).tr s7).tr s8).tr s9).tr s10).tr s11).tr s12).tr s13).tr s14).tr s15
def fp_c (j : Nat) : Nat := (4294970295 - j) % 4294967296
def fp_A (A : Nat) : Nat → Nat
  | 0 => A
  | j + 1 => ev_up (fp_A A j) j (fp_c j)
def fp_h (h : ev_H) (rA F A j : Nat) : ev_H := (h.set (rA - 36893488147419103232) (1000, 3001, fp_A A j)).set 0 (0, 160, ev_up F 88 j)
theorem fp_c1 (j : Nat) (hj : j < 3000) : fp_c j = 2999 - j := by unfold fp_c; omega
theorem fp_cs (j : Nat) (hj : j < 3000) : ev_oAdd (fp_c j) 4294967295 = fp_c (j + 1) := by unfold ev_oAdd fp_c; omega
theorem fp_loop {cf : Nat → List Nat → ev_H → Option ev_A} {F A rA nc ns : Nat} {h : ev_H} (h0 : ev_o h 36893488147419103232 = some (0, 160, F)) (hr : ev_at F 87 = rA) (hk : ev_isR rA = true) (hk0 : rA - 36893488147419103232 ≠ 0) (hA : ev_o h rA = some (1000, 3001, A)) (hm : ev_at F 88 = 0) : ∀ j, j ≤ 3000 →
    ev_goes 0 al_dfl cf fl_code none (16 * j) ((95, [36893488147419103232, 2999], []), h, nc, ns) ((95, [36893488147419103232, fp_c j], []), fp_h h rA F A j, nc, ns)
  | 0, _ => by
    have hA0 : h[rA - 36893488147419103232]? = some (1000, 3001, A) := by
      unfold ev_o at hA
      rw [hk, cond_true] at hA
      exact hA
    have e : fp_h h rA F A 0 = h := by
      unfold fp_h
      have e1 : fp_A A 0 = A := rfl
      rw [e1, ev_up_same hm, ev_set_same hA0]
      exact ev_set_same h0
    rw [e]
    exact ev_goes.rf _
  | j + 1, hj => by
    have ih := fp_loop (cf := cf) (nc := nc) (ns := ns) h0 hr hk hk0 hA hm j (by omega)
    have hA0 : h[rA - 36893488147419103232]? = some (1000, 3001, A) := by
      unfold ev_o at hA
      rw [hk, cond_true] at hA
      exact hA
    have hl0 : 0 < h.length := (List.getElem?_eq_some_iff.mp (show h[0]? = some (0, 160, F) from h0)).1
    have hl1 := (List.getElem?_eq_some_iff.mp hA0).1
    have hjj : j < 4722366482869645213696 := by omega
    have q0 : ev_o (fp_h h rA F A j) 36893488147419103232 = some (0, 160, ev_up F 88 j) := by
      show (fp_h h rA F A j)[0]? = _
      unfold fp_h
      rw [List.getElem?_set_self (by simpa using hl0)]
    have q1 : ev_at (ev_up F 88 j) 87 = rA := by
      rw [ev_at_up hjj, if_neg (by decide)]
      exact hr
    have q2 : ev_o (fp_h h rA F A j) rA = some (1000, 3001, fp_A A j) := by
      unfold ev_o
      rw [hk, cond_true]
      unfold fp_h
      rw [List.getElem?_set_ne (fun z => hk0 z.symm), List.getElem?_set_self hl1]
    have q3 : ev_at (ev_up F 88 j) 88 = j := by rw [ev_at_up hjj, if_pos rfl]
    have hc1 := fp_c1 j (by omega)
    have q4 : ev_isI (fp_c j) = true := Nat.blt_eq.mpr (by rw [hc1]; omega)
    have q5 : ev_if .lt (fp_c j) = false := by
      show Nat.blt (ev_s (fp_c j)) 2147483648 = false
      rw [hc1]
      unfold ev_s
      cases hq : Nat.blt ((2999 - j + 2147483648) % 4294967296) 2147483648
      · rfl
      · have := Nat.blt_eq.mp hq; omega
    have r := fp_round (cf := cf) (nc := nc) (ns := ns) q4 q5 q0 q1 hk hk0 q2 q3 (by omega)
    rw [fp_cs j (by omega)] at r
    have e : ((fp_h h rA F A j).set (rA - 36893488147419103232) (1000, 3001, ev_up (fp_A A j) j (fp_c j))).set 0 (0, 160, ev_up (ev_up F 88 j) 88 (ev_oAdd j 1)) = fp_h h rA F A (j + 1) := by
      have e2 : ev_oAdd j 1 = j + 1 := by unfold ev_oAdd; omega
      rw [e2, ev_up_up hjj]
      unfold fp_h
      exact fl_set hk0
    rw [e] at r
    have := ih.tr r
    rw [show 16 * (j + 1) = 16 + 16 * j by omega]
    exact this
