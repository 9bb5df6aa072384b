/-! ===== 15: the reference's forget(): its row of free cells filled ===== -/
abbrev fl_code : List (List ev_I) := ev_un mo_mX12_forget.2.2.2.2
theorem fl_mono (a b : Nat) : (Nat.ble a a && Nat.ble b b) = true := by rw [Nat.ble_eq_true_of_le (Nat.le_refl a), Nat.ble_eq_true_of_le (Nat.le_refl b)]; rfl
set_option maxHeartbeats 4000000 in
theorem fl_round {cf : Nat → List Nat → ev_H → Option ev_A} {c m F A rA nc ns : Nat} {h : ev_H} (hc : ev_isI c = true) (hn : ev_if .lt c = false) (h0 : ev_o h 36893488147419103232 = some (0, 160, F)) (hr : ev_at F 95 = rA) (hk : ev_isR rA = true) (hk0 : rA - 36893488147419103232 ≠ 0) (hA : ev_o h rA = some (1000, 95000, A)) (hm : ev_at F 96 = m) (hm2 : m < 95000) :
    ev_goes 0 mo_dfl cf fl_code none 16 ((139, [36893488147419103232, c], []), h, nc, ns) ((139, [36893488147419103232, ev_oAdd c 4294967295], []), ((h.set (rA - 36893488147419103232) (1000, 95000, ev_up A m c)).set 0 (0, 160, ev_up F 96 (ev_oAdd m 1))), nc, ns) := by
  have hmI : ev_isI m = true := Nat.blt_eq.mpr (by omega)
  have hmI1 : ev_isI (ev_oAdd m 1) = true := Nat.blt_eq.mpr (Nat.mod_lt _ (by decide))
  have hmb : Nat.blt m 95000 = true := Nat.blt_eq.mpr hm2
  have hT : ev_isR 36893488147419103232 = true := rfl
  have k1 : Nat.blt 95 160 = true := rfl
  have k2 : Nat.blt 96 160 = true := rfl
  have k3 : Nat.blt 95000 2147483648 = true := rfl
  have k4 : ∀ x : Nat, Nat.ble 0 x = true := fun x => Nat.ble_eq_true_of_le (Nat.zero_le x)
  have k5 : ev_isL 36893488147419103232 = false := rfl
  have k6 : ev_isI 1 = true := rfl
  have k7 : (1 : Int32) = nI 1 := rfl
  have k8 : nI 4294967295 = Int32.ofInt (-1) := by decide
  have k9 : Nat.blt 1 2 = true := rfl
  have hh0 : h[0]? = some (0, 160, F) := h0
  have h01 : ev_o (h.set (rA - 36893488147419103232) (1000, 95000, ev_up A m c)) 36893488147419103232 = some (0, 160, F) := by
    show (h.set (rA - 36893488147419103232) (1000, 95000, ev_up A m c))[0]? = _
    rw [List.getElem?_set_ne hk0]
    exact hh0
  have s0 : ev_goes 0 mo_dfl cf fl_code none 1 ((139, [36893488147419103232, c], []), h, nc, ns) ((140, [36893488147419103232, c], [c]), h, nc, ns) := ev_goes.one (x := (139, .iload_n 1, 1, 0, 0, 0, 0)) rfl rfl (by
    simp [ev_step, ev_stH, ev_stA, ev_ldI, ev_ldR, ev_pI, ev_wr, ev_binI, ev_fit, ev_set1, k1, k2, k3, k4, k5, k6, k7, k8, k9, hc, hn, h0, h01, hr, hA, hm, hmI, hmI1, hmb, hT, hk]) (fl_mono _ _)
  have s1 : ev_goes 0 mo_dfl cf fl_code none 1 ((140, [36893488147419103232, c], [c]), h, nc, ns) ((143, [36893488147419103232, c], []), h, nc, ns) := ev_goes.one (x := (140, .ifCond .lt 29, 3, 169, 0, 0, 0)) rfl rfl (by
    simp [ev_step, ev_stH, ev_stA, ev_ldI, ev_ldR, ev_pI, ev_wr, ev_binI, ev_fit, ev_set1, k1, k2, k3, k4, k5, k6, k7, k8, k9, hc, hn, h0, h01, hr, hA, hm, hmI, hmI1, hmb, hT, hk]) (fl_mono _ _)
  have s2 : ev_goes 0 mo_dfl cf fl_code none 1 ((143, [36893488147419103232, c], []), h, nc, ns) ((144, [36893488147419103232, c], [36893488147419103232]), h, nc, ns) := ev_goes.one (x := (143, .aload_n 0, 1, 0, 0, 0, 0)) rfl rfl (by
    simp [ev_step, ev_stH, ev_stA, ev_ldI, ev_ldR, ev_pI, ev_wr, ev_binI, ev_fit, ev_set1, k1, k2, k3, k4, k5, k6, k7, k8, k9, hc, hn, h0, h01, hr, hA, hm, hmI, hmI1, hmb, hT, hk]) (fl_mono _ _)
  have s3 : ev_goes 0 mo_dfl cf fl_code none 1 ((144, [36893488147419103232, c], [36893488147419103232]), h, nc, ns) ((147, [36893488147419103232, c], [rA]), h, nc, ns) := ev_goes.one (x := (144, .getfield 184, 3, 0, 95, 20, 66)) rfl rfl (by
    simp [ev_step, ev_stH, ev_stA, ev_ldI, ev_ldR, ev_pI, ev_wr, ev_binI, ev_fit, ev_set1, k1, k2, k3, k4, k5, k6, k7, k8, k9, hc, hn, h0, h01, hr, hA, hm, hmI, hmI1, hmb, hT, hk]) (fl_mono _ _)
  have s4 : ev_goes 0 mo_dfl cf fl_code none 1 ((147, [36893488147419103232, c], [rA]), h, nc, ns) ((148, [36893488147419103232, c], [36893488147419103232, rA]), h, nc, ns) := ev_goes.one (x := (147, .aload_n 0, 1, 0, 0, 0, 0)) rfl rfl (by
    simp [ev_step, ev_stH, ev_stA, ev_ldI, ev_ldR, ev_pI, ev_wr, ev_binI, ev_fit, ev_set1, k1, k2, k3, k4, k5, k6, k7, k8, k9, hc, hn, h0, h01, hr, hA, hm, hmI, hmI1, hmb, hT, hk]) (fl_mono _ _)
  have s5 : ev_goes 0 mo_dfl cf fl_code none 1 ((148, [36893488147419103232, c], [36893488147419103232, rA]), h, nc, ns) ((151, [36893488147419103232, c], [m, rA]), h, nc, ns) := ev_goes.one (x := (148, .getfield 1071, 3, 0, 96, 0, 256)) rfl rfl (by
    simp [ev_step, ev_stH, ev_stA, ev_ldI, ev_ldR, ev_pI, ev_wr, ev_binI, ev_fit, ev_set1, k1, k2, k3, k4, k5, k6, k7, k8, k9, hc, hn, h0, h01, hr, hA, hm, hmI, hmI1, hmb, hT, hk]) (fl_mono _ _)
  have s6 : ev_goes 0 mo_dfl cf fl_code none 1 ((151, [36893488147419103232, c], [m, rA]), h, nc, ns) ((152, [36893488147419103232, c], [c, m, rA]), h, nc, ns) := ev_goes.one (x := (151, .iload_n 1, 1, 0, 0, 0, 0)) rfl rfl (by
    simp [ev_step, ev_stH, ev_stA, ev_ldI, ev_ldR, ev_pI, ev_wr, ev_binI, ev_fit, ev_set1, k1, k2, k3, k4, k5, k6, k7, k8, k9, hc, hn, h0, h01, hr, hA, hm, hmI, hmI1, hmb, hT, hk]) (fl_mono _ _)
  have s7 : ev_goes 0 mo_dfl cf fl_code none 1 ((152, [36893488147419103232, c], [c, m, rA]), h, nc, ns) ((153, [36893488147419103232, c], []), (h.set (rA - 36893488147419103232) (1000, 95000, ev_up A m c)), nc, ns) := ev_goes.one (x := (152, .iastore, 1, 0, 0, 0, 0)) rfl rfl (by
    simp [ev_step, ev_stH, ev_stA, ev_ldI, ev_ldR, ev_pI, ev_wr, ev_binI, ev_fit, ev_set1, k1, k2, k3, k4, k5, k6, k7, k8, k9, hc, hn, h0, h01, hr, hA, hm, hmI, hmI1, hmb, hT, hk]) (fl_mono _ _)
  have s8 : ev_goes 0 mo_dfl cf fl_code none 1 ((153, [36893488147419103232, c], []), (h.set (rA - 36893488147419103232) (1000, 95000, ev_up A m c)), nc, ns) ((154, [36893488147419103232, c], [36893488147419103232]), (h.set (rA - 36893488147419103232) (1000, 95000, ev_up A m c)), nc, ns) := ev_goes.one (x := (153, .aload_n 0, 1, 0, 0, 0, 0)) rfl rfl (by
    simp [ev_step, ev_stH, ev_stA, ev_ldI, ev_ldR, ev_pI, ev_wr, ev_binI, ev_fit, ev_set1, k1, k2, k3, k4, k5, k6, k7, k8, k9, hc, hn, h0, h01, hr, hA, hm, hmI, hmI1, hmb, hT, hk]) (fl_mono _ _)
  have s9 : ev_goes 0 mo_dfl cf fl_code none 1 ((154, [36893488147419103232, c], [36893488147419103232]), (h.set (rA - 36893488147419103232) (1000, 95000, ev_up A m c)), nc, ns) ((155, [36893488147419103232, c], [36893488147419103232, 36893488147419103232]), (h.set (rA - 36893488147419103232) (1000, 95000, ev_up A m c)), nc, ns) := ev_goes.one (x := (154, .dup, 1, 0, 0, 0, 0)) rfl rfl (by
    simp [ev_step, ev_stH, ev_stA, ev_ldI, ev_ldR, ev_pI, ev_wr, ev_binI, ev_fit, ev_set1, k1, k2, k3, k4, k5, k6, k7, k8, k9, hc, hn, h0, h01, hr, hA, hm, hmI, hmI1, hmb, hT, hk]) (fl_mono _ _)
  have s10 : ev_goes 0 mo_dfl cf fl_code none 1 ((155, [36893488147419103232, c], [36893488147419103232, 36893488147419103232]), (h.set (rA - 36893488147419103232) (1000, 95000, ev_up A m c)), nc, ns) ((158, [36893488147419103232, c], [m, 36893488147419103232]), (h.set (rA - 36893488147419103232) (1000, 95000, ev_up A m c)), nc, ns) := ev_goes.one (x := (155, .getfield 1071, 3, 0, 96, 0, 256)) rfl rfl (by
    simp [ev_step, ev_stH, ev_stA, ev_ldI, ev_ldR, ev_pI, ev_wr, ev_binI, ev_fit, ev_set1, k1, k2, k3, k4, k5, k6, k7, k8, k9, hc, hn, h0, h01, hr, hA, hm, hmI, hmI1, hmb, hT, hk]) (fl_mono _ _)
  have s11 : ev_goes 0 mo_dfl cf fl_code none 1 ((158, [36893488147419103232, c], [m, 36893488147419103232]), (h.set (rA - 36893488147419103232) (1000, 95000, ev_up A m c)), nc, ns) ((159, [36893488147419103232, c], [1, m, 36893488147419103232]), (h.set (rA - 36893488147419103232) (1000, 95000, ev_up A m c)), nc, ns) := ev_goes.one (x := (158, .iconst 1, 1, 1, 0, 0, 0)) rfl rfl (by
    simp [ev_step, ev_stH, ev_stA, ev_ldI, ev_ldR, ev_pI, ev_wr, ev_binI, ev_fit, ev_set1, k1, k2, k3, k4, k5, k6, k7, k8, k9, hc, hn, h0, h01, hr, hA, hm, hmI, hmI1, hmb, hT, hk]) (fl_mono _ _)
  have s12 : ev_goes 0 mo_dfl cf fl_code none 1 ((159, [36893488147419103232, c], [1, m, 36893488147419103232]), (h.set (rA - 36893488147419103232) (1000, 95000, ev_up A m c)), nc, ns) ((160, [36893488147419103232, c], [ev_oAdd m 1, 36893488147419103232]), (h.set (rA - 36893488147419103232) (1000, 95000, ev_up A m c)), nc, ns) := ev_goes.one (x := (159, .iadd, 1, 0, 0, 0, 0)) rfl rfl (by
    simp [ev_step, ev_stH, ev_stA, ev_ldI, ev_ldR, ev_pI, ev_wr, ev_binI, ev_fit, ev_set1, k1, k2, k3, k4, k5, k6, k7, k8, k9, hc, hn, h0, h01, hr, hA, hm, hmI, hmI1, hmb, hT, hk]) (fl_mono _ _)
  have s13 : ev_goes 0 mo_dfl cf fl_code none 1 ((160, [36893488147419103232, c], [ev_oAdd m 1, 36893488147419103232]), (h.set (rA - 36893488147419103232) (1000, 95000, ev_up A m c)), nc, ns) ((163, [36893488147419103232, c], []), ((h.set (rA - 36893488147419103232) (1000, 95000, ev_up A m c)).set 0 (0, 160, ev_up F 96 (ev_oAdd m 1))), nc, ns) := ev_goes.one (x := (160, .putfield 1071, 3, 0, 96, 0, 256)) rfl rfl (by
    simp [ev_step, ev_stH, ev_stA, ev_ldI, ev_ldR, ev_pI, ev_wr, ev_binI, ev_fit, ev_set1, k1, k2, k3, k4, k5, k6, k7, k8, k9, hc, hn, h0, h01, hr, hA, hm, hmI, hmI1, hmb, hT, hk]) (fl_mono _ _)
  have s14 : ev_goes 0 mo_dfl cf fl_code none 1 ((163, [36893488147419103232, c], []), ((h.set (rA - 36893488147419103232) (1000, 95000, ev_up A m c)).set 0 (0, 160, ev_up F 96 (ev_oAdd m 1))), nc, ns) ((166, [36893488147419103232, ev_oAdd c 4294967295], []), ((h.set (rA - 36893488147419103232) (1000, 95000, ev_up A m c)).set 0 (0, 160, ev_up F 96 (ev_oAdd m 1))), nc, ns) := ev_goes.one (x := (163, .iinc 1 (-1), 3, 4294967295, 0, 0, 0)) rfl rfl (by
    simp [ev_step, ev_stH, ev_stA, ev_ldI, ev_ldR, ev_pI, ev_wr, ev_binI, ev_fit, ev_set1, k1, k2, k3, k4, k5, k6, k7, k8, k9, hc, hn, h0, h01, hr, hA, hm, hmI, hmI1, hmb, hT, hk]) (fl_mono _ _)
  have s15 : ev_goes 0 mo_dfl cf fl_code none 1 ((166, [36893488147419103232, ev_oAdd c 4294967295], []), ((h.set (rA - 36893488147419103232) (1000, 95000, ev_up A m c)).set 0 (0, 160, ev_up F 96 (ev_oAdd m 1))), nc, ns) ((139, [36893488147419103232, ev_oAdd c 4294967295], []), ((h.set (rA - 36893488147419103232) (1000, 95000, ev_up A m c)).set 0 (0, 160, ev_up F 96 (ev_oAdd m 1))), nc, ns) := ev_goes.one (x := (166, .goto (-27), 3, 139, 0, 0, 0)) rfl rfl (by
    simp [ev_step, ev_stH, ev_stA, ev_ldI, ev_ldR, ev_pI, ev_wr, ev_binI, ev_fit, ev_set1, k1, k2, k3, k4, k5, k6, k7, k8, k9, hc, hn, h0, h01, hr, hA, hm, hmI, hmI1, hmb, hT, hk]) (fl_mono _ _)
  exact (((((((((((((((s0).tr s1).tr s2).tr s3).tr s4).tr s5).tr s6).tr s7).tr s8).tr s9).tr s10).tr s11).tr s12).tr s13).tr s14).tr s15
